section MG_40_init
/-! CONSTRUCTORS: fields that are set one after another; rows stand behind what was there -/
/-- done: fields that refer, and whereto; todo: fields that are null -/
def rfL (done : List (Nat × Nat)) (todo : List Nat) : Nat → Option (Option Nat) := fun j => match done.lookup j with
  | some r => some (some r)
  | none => if todo.contains j then some none else none
theorem rfL_put {done : List (Nat × Nat)} {todo : List Nat} {j r : Nat} : va_up (rfL done (j :: todo)) j (some (some r)) = rfL ((j, r) :: done) todo := by
  funext i
  by_cases e : i = j
  · subst e
    rw [va_up_self]
    unfold rfL
    rw [List.lookup_cons_self]
  · rw [va_up_ne _ _ e]
    have h1 : (i == j) = false := by simpa using e
    unfold rfL
    rw [List.lookup_cons, h1, List.contains_cons, h1]
    rfl
theorem rfL_rz {todo : List Nat} : rz (rfL [] todo) = rfL [] todo := by
  funext j
  unfold rz rfL
  show Option.map (fun _ => none) (if todo.contains j then some none else none) = (if todo.contains j then some none else none)
  split <;> rfl
theorem rfL_cl {m ci nf j r : Nat} {done : List (Nat × Nat)} {todo : List Nat} (h : clE m (.inr (.inl (ci, nf, rfL done (j :: todo))))) (hr : r < m + 1) : clE (m + 1) (.inr (.inl (ci, nf, rfL ((j, r) :: done) todo))) := fun i q e => by
  rw [← rfL_put] at e
  by_cases z : i = j
  · subst z
    rw [va_up_self] at e
    cases e
    exact hr
  · rw [va_up_ne _ _ z] at e
    exact Nat.lt_succ_of_lt (h i q e)
theorem rfL_cl0 {m ci nf j r : Nat} {done : List (Nat × Nat)} {todo : List Nat} (h : clE m (.inr (.inl (ci, nf, rfL done (j :: todo))))) (hr : r < m) : clE m (.inr (.inl (ci, nf, rfL ((j, r) :: done) todo))) := fun i q e => by
  rw [← rfL_put] at e
  by_cases z : i = j
  · subst z
    rw [va_up_self] at e
    cases e
    exact hr
  · rw [va_up_ne _ _ z] at e
    exact h i q e
theorem rfL_null {m ci nf : Nat} {todo : List Nat} : clE m (.inr (.inl (ci, nf, rfL [] todo))) := fun i q e => by
  rw [← rfL_rz] at e
  exact (rz_cl e).elim
section INIT
variable {X : fj_X} {Y : fj_Y} {l0 : Launch} {cc : ByteArray} {nL : Nat} {own : String} {rm : Room} {mc ms : Nat} {ret : Option FieldType} {ad : Nat → Nat} {n : Nat} {S : ph_S} {h : ph_H} {pc : Nat} {lv : List (Nat × Value)} {stk st : List Value}
theorem j_ldc (C : FC X Y l0 cc nL own rm mc ms ret) {ix : Nat} {v : Int32} (hd : decode cc pc = .ok (.ldc ix, 2)) (hw : Cond.constant own ix v ∈ TW) (k : FJ X Y ad n S h (pc + 2) lv (.int v :: st)) : FJ X Y ad n S h pc lv st := by
  obtain ⟨⟨p, l, e, R⟩, ⟨s, m, args, below, meth, c⟩, ⟨cells, slots, Q⟩, ⟨nL', A⟩⟩ := X
  obtain ⟨G, cA⟩ := Y
  obtain ⟨hx, hb, hml, hown, hts, hK, hlk, hR, hce, hsl, hnl, hret, htr, hmc, hms, hA⟩ := C
  exact fun H locs ls hP hD hS hl => lv_ldc hx hb hown (hts _ hw) hd (k H locs ls hP hD hS hl)
/-- a row for a field -/
theorem j_nap (C : FC X Y l0 cc nL own rm mc ms ret) (hni : FN X "<init>") {at_ : ArrayType} {t N ix k0 ci nf j : Nat} {ty fty : FieldType} {z : Int32} {done : List (Nat × Nat)} {todo : List Nat} {Cn ref : String} {T : u_T} {ty0 : Nat → FieldType} (hd : decode cc pc = .ok (.newarray at_, 2)) (hd2 : decode cc (pc + 2) = .ok (.putfield ix, 3)) (hk : k0 < n) (hS0 : S k0 = .inr (.inl (ci, nf, rfL done (j :: todo)))) (hSn : S n = .inl (t, N)) (hhn : h n = fun _ => 0) (hcs : clS n S)
    (hty : newarray.typeOf at_ = ty) (harr : Cond.arrayClass ty ∈ TW) (ht : ∀ cA : Nat → ClassId, (tyl cA)[t]? = some (cA t, ty)) (hra : ∀ (U : State) (c : ClassId), va_RA U c ty → U.vm.findClass ("[" ++ ty.toString) = some c) (hdv : defaultValue ty = .int 0) (hz : (decide (¬ z < 0) && decide (z.toNatClampNeg = N) && decide (N * componentBytes ty ≤ 536870912)) = true) (h1 : mc + 1 ≤ rm.cells) (h2 : ms + N ≤ rm.slots)
    (hcl : vwCl[ci]? = some (Cn, T, nf)) (hin : ∀ w ∈ u_ws Cn T nf, w ∈ TW) (hty0 : ∀ k, k < nf → parseFieldDescriptor (T k).2.2.1 = some (ty0 k)) (hnm : ∀ a, a < nf → ∀ b, b < nf → a ≠ b → (T a).2.1 ≠ (T b).2.1) (hj : j < nf) (hlink : Cond.fieldLink own ix ref (T j).2.1 (T j).2.2.1 ∈ TW) (hsame : (T j).1 = ref) (hfin : (T j).2.2.2 = true) (hdecl : (T j).1 = own) (hpt : parseFieldDescriptor (T j).2.2.1 = some fty) (hnar : ∀ a : Nat, narrow fty (.ref a) = .ref a) (hfit : ∀ a : Nat, fits fty (.ref a) = true)
    (kk : ∀ ad' : Nat → Nat, (∀ k, k < n → ad' k = ad k) → clS (n + 1) (va_up S k0 (.inr (.inl (ci, nf, rfL ((j, n) :: done) todo)))) → FJ (xg X 1 N) Y ad' (n + 1) (va_up S k0 (.inr (.inl (ci, nf, rfL ((j, n) :: done) todo)))) h (pc + 5) lv st) : FJ X Y ad n S h pc lv (.int z :: .ref (ad k0) :: st) := by
  simp only [Bool.and_eq_true, decide_eq_true_eq] at hz
  refine j_newa (t := t) (N := N) C hd hty harr ht hra hdv hz.1.1 hz.1.2 hz.2 hcs h1 h2 (fun ad' hA => ?_)
  rw [va_up_id hSn, va_up_id hhn, ← hA k0 hk]
  have C1 := C.g h1 h2
  have cl0 := hcs k0 hk
  rw [hS0] at cl0
  refine j_putFr (j := j) C1 hni hd2 (Nat.lt_succ_of_lt hk) hS0 hcl hin hty0 hnm hj hlink hsame hfin hdecl hpt hnar hfit ?_
  rw [rfL_put]
  refine kk ad' hA (fun k hk' => ?_)
  by_cases e : k = k0
  · subst e
    rw [va_up_self]
    exact rfL_cl cl0 (Nat.lt_succ_self n)
  · rw [va_up_ne _ _ e]
    by_cases e2 : k = n
    · subst e2
      rw [hSn]
      trivial
    · exact (hcs k (by omega)).mono (Nat.le_succ n)
/-- new C(..): a place for it -/
theorem j_newS (C : FC X Y l0 cc nL own rm mc ms ret) {ix ci nf : Nat} {todo : List Nat} {Cn : String} {T : u_T} {ty0 : Nat → FieldType} (hd : decode cc pc = .ok (.new ix, 3)) (hcl : vwCl[ci]? = some (Cn, T, nf)) (hin : ∀ w ∈ u_ws Cn T nf, w ∈ TW) (hty : ∀ k, k < nf → parseFieldDescriptor (T k).2.2.1 = some (ty0 k)) (hlink : Cond.classLink own ix Cn ∈ TW) (hinst : Cond.instantiable Cn nf ∈ TW) (hini : Cond.initialized Cn ∈ TW) (hdv : dvOk ty0 (rfL [] todo) nf = true) (hhn : h n = fun _ => 0) (hcs : clS n S) (h1 : mc + 1 ≤ rm.cells) (h2 : ms + nf ≤ rm.slots)
    (kk : ∀ ad' : Nat → Nat, (∀ k, k < n → ad' k = ad k) → clS (n + 1) (va_up S n (.inr (.inl (ci, nf, rfL [] todo)))) → FJ (xg X 1 nf) Y ad' (n + 1) (va_up S n (.inr (.inl (ci, nf, rfL [] todo)))) h (pc + 3) lv (.ref (ad' n) :: st)) : FJ X Y ad n S h pc lv st := by
  refine j_new (rf := rfL [] todo) C hd hcl hin hty hlink hinst hini hdv hcs h1 h2 (fun ad' hA => ?_)
  rw [rfL_rz, va_up_id hhn]
  exact kk ad' hA (hcs.push rfL_null)
/-- a row of references, all null -/
theorem j_newq (C : FC X Y l0 cc nL own rm mc ms ret) (E : FE X) {ix N : Nat} {z : Int32} (hd : decode cc pc = .ok (.anewarray ix, 3)) (hlink : Cond.classLink own ix "ReplayBox$Held" ∈ TW) (hz : (decide (¬ z < 0) && decide (z.toNatClampNeg = N) && decide (N * 4 ≤ 536870912)) = true) (hcs : clS n S) (hSn : S n = .inr (.inr (3, N, fun _ => none))) (hhn : h n = fun _ => 0) (h1 : mc + 1 ≤ rm.cells) (h2 : ms + N ≤ rm.slots)
    (kk : ∀ ad' : Nat → Nat, (∀ k, k < n → ad' k = ad k) → FJ (xg X 1 N) Y ad' (n + 1) S h (pc + 3) lv (.ref (ad' n) :: st)) : FJ X Y ad n S h pc lv (.int z :: st) := by
  simp only [Bool.and_eq_true, decide_eq_true_eq] at hz
  obtain ⟨⟨p, l, e, R⟩, ⟨s, m, args, below, meth, c⟩, ⟨cells, slots, Q⟩, ⟨nL', A⟩⟩ := X
  obtain ⟨G, cA⟩ := Y
  obtain ⟨hx, hb, hml, hown, hts, hK, hlk, hR, hce, hsl, hnl, hret, htr, hmc, hms, hA⟩ := C
  subst hR hce hsl
  intro H locs ls hP hD hS hl
  refine va_newq (D := G) hx hb hown (hts _ hlink) E.2.2.2.2.2.1 hK hP hD hS hA hz.1.1 hz.1.2 hz.2 h1 h2 hd (fun q c1 H1 hK1 hP1 hD1 hS1 => ?_)
  have e1 : c1 = cA 3 := by
    obtain ⟨_, _, _, _, _, a1⟩ := (hK1.2 5 (c1, .object "ReplayBox$Held") rfl).2
    obtain ⟨_, _, _, _, _, a2⟩ := (hK.2 3 (cA 3, .object "ReplayBox$Held") rfl).2
    exact Option.some.inj (a1.symm.trans a2)
  subst e1
  have hAd : ∀ k, k < n → va_up ad n q k = ad k := fun k hk => va_up_ne _ _ (by omega)
  have ew : ph_w (n + 1) cA (va_up ad n q) (va_up S n (.inr (.inr (3, N, fun _ => none)))) (va_up h n (fun _ => 0)) = ph_w n cA ad S h ++ [(q, .inl (cA 3, N, .inr (.inr (.inr (.inr (fun _ => none))))))] := by
    rw [ph_w_push hcs hAd, va_up_self]
    rfl
  rw [va_up_id hSn, va_up_id hhn] at ew
  have k := kk (va_up ad n q) hAd H1 locs ls (by rw [ew]; exact hP1) (by rw [ew]; exact hD1) hS1 hl
  rw [va_up_self] at k
  exact k
/-- new int[2][N] -/
theorem j_mna (C : FC X Y l0 cc nL own rm mc ms ret) (E : FE X) {ix N : Nat} {z : Int32} (hd : decode cc pc = .ok (.multianewarray ix 2, 4)) (hlink : Cond.classLink own ix "[[I" ∈ TW) (harr : Cond.arrayClass .int ∈ TW) (hz : (decide (¬ z < 0) && decide (z.toNatClampNeg = N) && decide (N * 4 ≤ 536870912)) = true) (hcs : clS n S) (hSn : S n = .inr (.inr (4, 2, fun i => if i < 2 then some (n + 1 + i) else none))) (hS1 : S (n + 1) = .inl (0, N)) (hS2 : S (n + 2) = .inl (0, N)) (hh0 : h n = fun _ => 0) (hh1 : h (n + 1) = fun _ => 0) (hh2 : h (n + 2) = fun _ => 0) (h1 : mc + 3 ≤ rm.cells) (h2 : ms + (2 + 2 * N) ≤ rm.slots)
    (kk : ∀ ad' : Nat → Nat, (∀ k, k < n → ad' k = ad k) → clS (n + 1 + 1 + 1) S → FJ (xg X 3 (2 + 2 * N)) Y ad' (n + 1 + 1 + 1) S h (pc + 4) lv (.ref (ad' n) :: st)) : FJ X Y ad n S h pc lv (.int z :: .int 2 :: st) := by
  simp only [Bool.and_eq_true, decide_eq_true_eq] at hz
  obtain ⟨⟨p, l, e, R⟩, ⟨s, m, args, below, meth, c⟩, ⟨cells, slots, Q⟩, ⟨nL', A⟩⟩ := X
  obtain ⟨G, cA⟩ := Y
  obtain ⟨hx, hb, hml, hown, hts, hK, hlk, hR, hce, hsl, hnl, hret, htr, hmc, hms, hA⟩ := C
  subst hR hce hsl
  intro H locs ls hP hD hS hl
  have s1 : "[" ++ (FieldType.array .int).toString = "[[I" := by decide +kernel
  have s2 : (FieldType.array .int).toString = "[" ++ FieldType.int.toString := by decide +kernel
  refine va_mna (D := G) (X := ph_w n cA ad S h) (L := []) (f := fun _ => .inr (0, [])) (ty := .int) (cy := cA 0) (n := 2) (k := z) (N' := 2) (K' := N) (z := (N, .inl (fun _ => 0))) hx hb hown (by rw [s1]; exact hts _ hlink) (show (Cond.arrayOver (.array .int)).before args s = true from E.2.2.2.2.2.2.1) (hts _ harr) (by rw [s2]; exact (hK.2 0 _ rfl).2) hK (by rw [show va_pl [] (fun _ => (Sum.inr (0, []) : va_E)) = [] from rfl, List.append_nil]; exact hP) (by rw [show va_pl [] (fun _ => (Sum.inr (0, []) : va_E)) = [] from rfl, List.append_nil]; exact hD) hS hA (by decide) hz.1.1 (by decide) hz.1.2 (by decide) hz.2 (by omega) rfl rfl (by omega) (by omega) (fun c1 => ?_) hd (fun q r c1 H1 hr hrl hK1 hP1 hD1 hS1' => ?_)
  · rw [vp_cell_i]
    exact (arrV_new ..)
  · have e1 : c1 = cA 4 := by
      have a1 : s.vm.findClass _ = some c1 := (hK1.2 5 (c1, .array .int) rfl).2
      have a2 : s.vm.findClass _ = some (cA 4) := (hK.2 4 (cA 4, .array .int) rfl).2
      exact Option.some.inj (a1.symm.trans a2)
    subst e1
    obtain ⟨ad', ea⟩ : ∃ ad' : Nat → Nat, ad' = va_up (va_up (va_up ad n q) (n + 1) (r 0)) (n + 2) (r 1) := ⟨_, rfl⟩
    have a0 : ad' n = q := by rw [ea, va_up_ne _ _ (by omega), va_up_ne _ _ (by omega), va_up_self]
    have a1 : ad' (n + 1) = r 0 := by rw [ea, va_up_ne _ _ (by omega), va_up_self]
    have a2 : ad' (n + 2) = r 1 := by rw [ea, va_up_self]
    have hAd : ∀ k, k < n → ad' k = ad k := fun k hk => by rw [ea, va_up_ne _ _ (by omega), va_up_ne _ _ (by omega), va_up_ne _ _ (by omega)]
    have hcs3 : clS (n + 1 + 1 + 1) S := fun k hk => by
      by_cases c0 : k < n
      · exact (hcs k c0).mono (by omega)
      · by_cases c1 : k = n
        · subst c1
          rw [hSn]
          intro i r e
          have e : (if i < 2 then some (k + 1 + i) else none) = some r := e
          split at e
          · cases e
            omega
          · cases e
        · by_cases c2 : k = n + 1
          · subst c2
            rw [hS1]
            trivial
          · have c3 : k = n + 2 := by omega
            subst c3
            rw [hS2]
            trivial
    have ew : ph_w (n + 1 + 1 + 1) cA ad' S h = (ph_w n cA ad S h ++ [(q, .inl (cA 4, 2, .inr (.inr (.inr (.inr (fun i => if i < 2 then some (r i) else none))))))]) ++ va_pl ([] ++ (List.range 2).map r) (vr_up (fun _ => .inr (0, [])) ((List.range 2).map r) (.inl (cA 0, N, .inl (fun _ => 0)))) := by
      have step : ∀ m, ph_w (m + 1) cA ad' S h = ph_w m cA ad' S h ++ [(ad' m, ph_e cA ad' (S m) (h m))] := fun m => by
        unfold ph_w
        rw [List.range_succ, List.map_append]
        rfl
      have base : ph_w n cA ad' S h = ph_w n cA ad S h := by
        unfold ph_w
        refine List.map_congr_left (fun k hk => ?_)
        rw [hAd k (List.mem_range.mp hk), ph_e_ad (hcs k (List.mem_range.mp hk)) hAd]
      have t0 : ph_e cA ad' (S n) (h n) = .inl (cA 4, 2, .inr (.inr (.inr (.inr (fun i => if i < 2 then some (r i) else none))))) := by
        rw [hSn]
        show Sum.inl (cA 4, 2, _) = Sum.inl (cA 4, 2, _)
        congr 7
        funext i
        show Option.map ad' (if i < 2 then some (n + 1 + i) else none) = if i < 2 then some (r i) else none
        by_cases c0 : i < 2
        · rw [if_pos c0, if_pos c0]
          have : i = 0 ∨ i = 1 := by omega
          rcases this with e | e
          · subst e
            exact congrArg some a1
          · subst e
            exact congrArg some a2
        · rw [if_neg c0, if_neg c0]
          rfl
      have t1 : ph_e cA ad' (S (n + 1)) (h (n + 1)) = .inl (cA 0, N, .inl (fun _ => 0)) := by rw [hS1, hh1]; rfl
      have t2 : ph_e cA ad' (S (n + 2)) (h (n + 2)) = .inl (cA 0, N, .inl (fun _ => 0)) := by rw [hS2, hh2]; rfl
      have v0 : vr_up (fun _ => (.inr (0, []) : va_E)) [r 0, r 1] (.inl (cA 0, N, .inl (fun _ => 0))) (r 0) = .inl (cA 0, N, .inl (fun _ => 0)) := vr_up_in (List.mem_cons_self)
      have v1 : vr_up (fun _ => (.inr (0, []) : va_E)) [r 0, r 1] (.inl (cA 0, N, .inl (fun _ => 0))) (r 1) = .inl (cA 0, N, .inl (fun _ => 0)) := vr_up_in (List.mem_cons_of_mem _ (List.mem_cons_self))
      have el : va_pl ([] ++ (List.range 2).map r) (vr_up (fun _ => (.inr (0, []) : va_E)) ((List.range 2).map r) (.inl (cA 0, N, .inl (fun _ => 0)))) = [(r 0, .inl (cA 0, N, .inl (fun _ => 0))), (r 1, .inl (cA 0, N, .inl (fun _ => 0)))] := by
        show [(r 0, vr_up _ [r 0, r 1] _ (r 0)), (r 1, vr_up _ [r 0, r 1] _ (r 1))] = _
        rw [v0, v1]
      rw [el, step, step, step, base, t0, t1, t2, a0, a1, a2]
      simp only [List.append_assoc, List.cons_append, List.nil_append]
    have k := kk ad' hAd hcs3 H1 locs ls (by rw [ew]; exact hP1) (by rw [ew]; exact hD1) hS1' hl
    rw [a0] at k
    have eq1 : slots + 2 + 2 * N = slots + (2 + 2 * N) := by omega
    rw [eq1]
    exact k
end INIT
end MG_40_init
section MG_41_initc
/-! THE CLASS'S CONSTRUCTORS -/
section INITC
variable {l0 : Launch} {Y : fj_Y} {ad : Nat → Nat} {n : Nat} {S : ph_S} {h : ph_H}
set_option maxRecDepth 100000 in
theorem GX5_init {k0 : Nat}  (hk : k0 < n)  (hS : S k0 = .inr (.inl (4, 8, rfL [] [0, 1, 2, 3, 4, 5]))) (hcs : clS n S) (f0 : S (n) = .inl (0, 4)) (f1 : S (n + 1) = .inl (0, 384)) (f2 : S (n + 2) = .inl (0, 12)) (f3 : S (n + 3) = .inl (0, 30)) (f4 : S (n + 4) = .inl (0, 40)) (f5 : S (n + 5) = .inl (0, 40)) (g : ∀ i, i < 6 → h (n + i) = fun _ => 0) : GM l0 yX5_init (.code yX5_init cX5_init 1 none) (mkR 1 6 510 12) Y ad n S h [.ref (ad k0)] (gQv Y ad n S h (fun u => ∃ ad', u = (n + 6, ad', va_up S k0 (.inr (.inl (4, 8, rfL [(5, n + 5), (4, n + 4), (3, n + 3), (2, n + 2), (1, n + 1), (0, n)] []))), h) ∧ (∀ k, k < n → ad' k = ad k) ∧ clS (n + 6) (va_up S k0 (.inr (.inl (4, 8, rfL [(5, n + 5), (4, n + 4), (3, n + 3), (2, n + 2), (1, n + 1), (0, n)] [])))))) := met_gv (by decide) (Nat.le_of_ble_eq_true rfl) (fun X C E N K => by
  refine j_vl (lv' := [(0, .ref (ad k0))]) ?_ ⟨rfl, trivial⟩
  refine j_aload_n C dX5_init_0 rfl rfl ?_
  refine j_objInit C dX5_init_1 lo_RX5_3 oi_i oi_c (by decide) (by decide) ?_
  refine j_aload_n C dX5_init_4 rfl rfl ?_
  refine j_iconst (v := 4) C dX5_init_5 (by decide) ?_
  refine j_nap (k0 := k0) (j := 0) (t := 0) (N := 4) (fty := .array .int) C N dX5_init_6 dX5_init_8 (by omega) hS f0 (g 0 (by decide)) hcs rfl ar_int (fun _ => rfl) raI (by decide +kernel) (by decide) (by decide) (by decide) rfl inX5 tyX5_ok nmX5 (by decide) lfRX5_9 rfl rfl rfl (by decide +kernel) (fun _ => rfl) (fun _ => rfl) (fun ad1 hA1 hc1 => ?_)
  rw [← hA1 k0 (by omega)]
  have C1 := C.g (a := 1) (b := 4) (by decide) (by decide)
  have hS1 : va_up S k0 (.inr (.inl (4, 8, rfL [(0, n)] [1, 2, 3, 4, 5]))) k0 = .inr (.inl (4, 8, rfL [(0, n)] [1, 2, 3, 4, 5])) := va_up_self ..
  refine j_aload_n C1 dX5_init_11 rfl rfl ?_
  refine j_sipush (v := 384) C1 dX5_init_12 (by decide) ?_
  refine j_nap (k0 := k0) (j := 1) (t := 0) (N := 384) (fty := .array .int) C1 N dX5_init_15 dX5_init_17 (by omega) hS1 (by rw [va_up_ne _ _ (by omega)]; exact f1) (g 1 (by decide)) hc1 rfl ar_int (fun _ => rfl) raI (by decide +kernel) (by decide) (by decide) (by decide) rfl inX5 tyX5_ok nmX5 (by decide) lfRX5_15 rfl rfl rfl (by decide +kernel) (fun _ => rfl) (fun _ => rfl) (fun ad2 hA2 hc2 => ?_)
  rw [va_up2] at hc2 ⊢
  rw [← hA2 k0 (by omega)]
  have C2 := C1.g (a := 1) (b := 384) (by decide) (by decide)
  have hS2 : va_up S k0 (.inr (.inl (4, 8, rfL [(1, n + 1), (0, n)] [2, 3, 4, 5]))) k0 = .inr (.inl (4, 8, rfL [(1, n + 1), (0, n)] [2, 3, 4, 5])) := va_up_self ..
  refine j_aload_n C2 dX5_init_20 rfl rfl ?_
  refine j_bipush (v := 12) C2 dX5_init_21 (by decide) ?_
  refine j_nap (k0 := k0) (j := 2) (t := 0) (N := 12) (fty := .array .int) C2 N dX5_init_23 dX5_init_25 (by omega) hS2 (by rw [va_up_ne _ _ (by omega)]; exact f2) (g 2 (by decide)) hc2 rfl ar_int (fun _ => rfl) raI (by decide +kernel) (by decide) (by decide) (by decide) rfl inX5 tyX5_ok nmX5 (by decide) lfRX5_18 rfl rfl rfl (by decide +kernel) (fun _ => rfl) (fun _ => rfl) (fun ad3 hA3 hc3 => ?_)
  rw [va_up2] at hc3 ⊢
  rw [← hA3 k0 (by omega)]
  have C3 := C2.g (a := 1) (b := 12) (by decide) (by decide)
  have hS3 : va_up S k0 (.inr (.inl (4, 8, rfL [(2, n + 2), (1, n + 1), (0, n)] [3, 4, 5]))) k0 = .inr (.inl (4, 8, rfL [(2, n + 2), (1, n + 1), (0, n)] [3, 4, 5])) := va_up_self ..
  refine j_aload_n C3 dX5_init_28 rfl rfl ?_
  refine j_bipush (v := 30) C3 dX5_init_29 (by decide) ?_
  refine j_nap (k0 := k0) (j := 3) (t := 0) (N := 30) (fty := .array .int) C3 N dX5_init_31 dX5_init_33 (by omega) hS3 (by rw [va_up_ne _ _ (by omega)]; exact f3) (g 3 (by decide)) hc3 rfl ar_int (fun _ => rfl) raI (by decide +kernel) (by decide) (by decide) (by decide) rfl inX5 tyX5_ok nmX5 (by decide) lfRX5_21 rfl rfl rfl (by decide +kernel) (fun _ => rfl) (fun _ => rfl) (fun ad4 hA4 hc4 => ?_)
  rw [va_up2] at hc4 ⊢
  rw [← hA4 k0 (by omega)]
  have C4 := C3.g (a := 1) (b := 30) (by decide) (by decide)
  have hS4 : va_up S k0 (.inr (.inl (4, 8, rfL [(3, n + 3), (2, n + 2), (1, n + 1), (0, n)] [4, 5]))) k0 = .inr (.inl (4, 8, rfL [(3, n + 3), (2, n + 2), (1, n + 1), (0, n)] [4, 5])) := va_up_self ..
  refine j_aload_n C4 dX5_init_36 rfl rfl ?_
  refine j_bipush (v := 40) C4 dX5_init_37 (by decide) ?_
  refine j_nap (k0 := k0) (j := 4) (t := 0) (N := 40) (fty := .array .int) C4 N dX5_init_39 dX5_init_41 (by omega) hS4 (by rw [va_up_ne _ _ (by omega)]; exact f4) (g 4 (by decide)) hc4 rfl ar_int (fun _ => rfl) raI (by decide +kernel) (by decide) (by decide) (by decide) rfl inX5 tyX5_ok nmX5 (by decide) lfRX5_24 rfl rfl rfl (by decide +kernel) (fun _ => rfl) (fun _ => rfl) (fun ad5 hA5 hc5 => ?_)
  rw [va_up2] at hc5 ⊢
  rw [← hA5 k0 (by omega)]
  have C5 := C4.g (a := 1) (b := 40) (by decide) (by decide)
  have hS5 : va_up S k0 (.inr (.inl (4, 8, rfL [(4, n + 4), (3, n + 3), (2, n + 2), (1, n + 1), (0, n)] [5]))) k0 = .inr (.inl (4, 8, rfL [(4, n + 4), (3, n + 3), (2, n + 2), (1, n + 1), (0, n)] [5])) := va_up_self ..
  refine j_aload_n C5 dX5_init_44 rfl rfl ?_
  refine j_bipush (v := 40) C5 dX5_init_45 (by decide) ?_
  refine j_nap (k0 := k0) (j := 5) (t := 0) (N := 40) (fty := .array .int) C5 N dX5_init_47 dX5_init_49 (by omega) hS5 (by rw [va_up_ne _ _ (by omega)]; exact f5) (g 5 (by decide)) hc5 rfl ar_int (fun _ => rfl) raI (by decide +kernel) (by decide) (by decide) (by decide) rfl inX5 tyX5_ok nmX5 (by decide) lfRX5_27 rfl rfl rfl (by decide +kernel) (fun _ => rfl) (fun _ => rfl) (fun ad6 hA6 hc6 => ?_)
  rw [va_up2] at hc6 ⊢
  rw [← hA6 k0 (by omega)]
  have C6 := C5.g (a := 1) (b := 40) (by decide) (by decide)
  have hS6 : va_up S k0 (.inr (.inl (4, 8, rfL [(5, n + 5), (4, n + 4), (3, n + 3), (2, n + 2), (1, n + 1), (0, n)] []))) k0 = .inr (.inl (4, 8, rfL [(5, n + 5), (4, n + 4), (3, n + 3), (2, n + 2), (1, n + 1), (0, n)] [])) := va_up_self ..
  simp only [xg_xg]
  exact K (n + 6, ad6, va_up S k0 (.inr (.inl (4, 8, rfL [(5, n + 5), (4, n + 4), (3, n + 3), (2, n + 2), (1, n + 1), (0, n)] []))), h) 6 510 ⟨ad6, rfl, fun k hk => ((hA6 k (by omega)).trans ((hA5 k (by omega)).trans ((hA4 k (by omega)).trans ((hA3 k (by omega)).trans ((hA2 k (by omega)).trans (hA1 k (by omega))))))), hc6⟩ (by decide) (by decide) _ _ dX5_init_52)
set_option maxRecDepth 100000 in
theorem GX3_init {k0 : Nat} {pp : Nat} (hk : k0 < n) (hpp : pp < n) (hS : S k0 = .inr (.inl (2, 18, rfL [] [0, 1, 2, 3, 4, 5, 6, 7, 8, 9]))) (hcs : clS n S) (f0 : S (n) = .inl (0, 28)) (f1 : S (n + 1) = .inl (0, 28)) (f2 : S (n + 2) = .inl (0, 4)) (f3 : S (n + 3) = .inl (0, 4)) (f4 : S (n + 4) = .inl (0, 4)) (f5 : S (n + 5) = .inl (0, 12)) (f6 : S (n + 6) = .inl (0, 12)) (f7 : S (n + 7) = .inl (0, 12)) (f8 : S (n + 8) = .inl (0, 192)) (g : ∀ i, i < 9 → h (n + i) = fun _ => 0) : GM l0 yX3_init (.code yX3_init cX3_init 2 none) (mkR 1 9 296 12) Y ad n S h [.ref (ad k0), .ref (ad pp)] (gQv Y ad n S h (fun u => ∃ ad', u = (n + 9, ad', va_up S k0 (.inr (.inl (2, 18, rfL [(9, pp), (8, n + 8), (7, n + 7), (6, n + 6), (5, n + 5), (4, n + 4), (3, n + 3), (2, n + 2), (1, n + 1), (0, n)] []))), h) ∧ (∀ k, k < n → ad' k = ad k) ∧ clS (n + 9) (va_up S k0 (.inr (.inl (2, 18, rfL [(9, pp), (8, n + 8), (7, n + 7), (6, n + 6), (5, n + 5), (4, n + 4), (3, n + 3), (2, n + 2), (1, n + 1), (0, n)] [])))))) := met_gv (by decide) (Nat.le_of_ble_eq_true rfl) (fun X C E N K => by
  refine j_vl (lv' := [(0, .ref (ad k0)), (1, .ref (ad pp))]) ?_ ⟨rfl, rfl, trivial⟩
  refine j_aload_n C dX3_init_0 rfl rfl ?_
  refine j_objInit C dX3_init_1 lo_RX3_3 oi_i oi_c (by decide) (by decide) ?_
  refine j_aload_n C dX3_init_4 rfl rfl ?_
  refine j_bipush (v := 28) C dX3_init_5 (by decide) ?_
  refine j_nap (k0 := k0) (j := 0) (t := 0) (N := 28) (fty := .array .int) C N dX3_init_7 dX3_init_9 (by omega) hS f0 (g 0 (by decide)) hcs rfl ar_int (fun _ => rfl) raI (by decide +kernel) (by decide) (by decide) (by decide) rfl inX3 tyX3_ok nmX3 (by decide) lfRX3_9 rfl rfl rfl (by decide +kernel) (fun _ => rfl) (fun _ => rfl) (fun ad1 hA1 hc1 => ?_)
  rw [← hA1 k0 (by omega), ← hA1 pp (by omega)]
  have C1 := C.g (a := 1) (b := 28) (by decide) (by decide)
  have hS1 : va_up S k0 (.inr (.inl (2, 18, rfL [(0, n)] [1, 2, 3, 4, 5, 6, 7, 8, 9]))) k0 = .inr (.inl (2, 18, rfL [(0, n)] [1, 2, 3, 4, 5, 6, 7, 8, 9])) := va_up_self ..
  refine j_aload_n C1 dX3_init_12 rfl rfl ?_
  refine j_bipush (v := 28) C1 dX3_init_13 (by decide) ?_
  refine j_nap (k0 := k0) (j := 1) (t := 0) (N := 28) (fty := .array .int) C1 N dX3_init_15 dX3_init_17 (by omega) hS1 (by rw [va_up_ne _ _ (by omega)]; exact f1) (g 1 (by decide)) hc1 rfl ar_int (fun _ => rfl) raI (by decide +kernel) (by decide) (by decide) (by decide) rfl inX3 tyX3_ok nmX3 (by decide) lfRX3_15 rfl rfl rfl (by decide +kernel) (fun _ => rfl) (fun _ => rfl) (fun ad2 hA2 hc2 => ?_)
  rw [va_up2] at hc2 ⊢
  rw [← hA2 k0 (by omega), ← hA2 pp (by omega)]
  have C2 := C1.g (a := 1) (b := 28) (by decide) (by decide)
  have hS2 : va_up S k0 (.inr (.inl (2, 18, rfL [(1, n + 1), (0, n)] [2, 3, 4, 5, 6, 7, 8, 9]))) k0 = .inr (.inl (2, 18, rfL [(1, n + 1), (0, n)] [2, 3, 4, 5, 6, 7, 8, 9])) := va_up_self ..
  refine j_aload_n C2 dX3_init_20 rfl rfl ?_
  refine j_iconst (v := 4) C2 dX3_init_21 (by decide) ?_
  refine j_nap (k0 := k0) (j := 2) (t := 0) (N := 4) (fty := .array .int) C2 N dX3_init_22 dX3_init_24 (by omega) hS2 (by rw [va_up_ne _ _ (by omega)]; exact f2) (g 2 (by decide)) hc2 rfl ar_int (fun _ => rfl) raI (by decide +kernel) (by decide) (by decide) (by decide) rfl inX3 tyX3_ok nmX3 (by decide) lfRX3_18 rfl rfl rfl (by decide +kernel) (fun _ => rfl) (fun _ => rfl) (fun ad3 hA3 hc3 => ?_)
  rw [va_up2] at hc3 ⊢
  rw [← hA3 k0 (by omega), ← hA3 pp (by omega)]
  have C3 := C2.g (a := 1) (b := 4) (by decide) (by decide)
  have hS3 : va_up S k0 (.inr (.inl (2, 18, rfL [(2, n + 2), (1, n + 1), (0, n)] [3, 4, 5, 6, 7, 8, 9]))) k0 = .inr (.inl (2, 18, rfL [(2, n + 2), (1, n + 1), (0, n)] [3, 4, 5, 6, 7, 8, 9])) := va_up_self ..
  refine j_aload_n C3 dX3_init_27 rfl rfl ?_
  refine j_iconst (v := 4) C3 dX3_init_28 (by decide) ?_
  refine j_nap (k0 := k0) (j := 3) (t := 0) (N := 4) (fty := .array .int) C3 N dX3_init_29 dX3_init_31 (by omega) hS3 (by rw [va_up_ne _ _ (by omega)]; exact f3) (g 3 (by decide)) hc3 rfl ar_int (fun _ => rfl) raI (by decide +kernel) (by decide) (by decide) (by decide) rfl inX3 tyX3_ok nmX3 (by decide) lfRX3_21 rfl rfl rfl (by decide +kernel) (fun _ => rfl) (fun _ => rfl) (fun ad4 hA4 hc4 => ?_)
  rw [va_up2] at hc4 ⊢
  rw [← hA4 k0 (by omega), ← hA4 pp (by omega)]
  have C4 := C3.g (a := 1) (b := 4) (by decide) (by decide)
  have hS4 : va_up S k0 (.inr (.inl (2, 18, rfL [(3, n + 3), (2, n + 2), (1, n + 1), (0, n)] [4, 5, 6, 7, 8, 9]))) k0 = .inr (.inl (2, 18, rfL [(3, n + 3), (2, n + 2), (1, n + 1), (0, n)] [4, 5, 6, 7, 8, 9])) := va_up_self ..
  refine j_aload_n C4 dX3_init_34 rfl rfl ?_
  refine j_iconst (v := 4) C4 dX3_init_35 (by decide) ?_
  refine j_nap (k0 := k0) (j := 4) (t := 0) (N := 4) (fty := .array .int) C4 N dX3_init_36 dX3_init_38 (by omega) hS4 (by rw [va_up_ne _ _ (by omega)]; exact f4) (g 4 (by decide)) hc4 rfl ar_int (fun _ => rfl) raI (by decide +kernel) (by decide) (by decide) (by decide) rfl inX3 tyX3_ok nmX3 (by decide) lfRX3_24 rfl rfl rfl (by decide +kernel) (fun _ => rfl) (fun _ => rfl) (fun ad5 hA5 hc5 => ?_)
  rw [va_up2] at hc5 ⊢
  rw [← hA5 k0 (by omega), ← hA5 pp (by omega)]
  have C5 := C4.g (a := 1) (b := 4) (by decide) (by decide)
  have hS5 : va_up S k0 (.inr (.inl (2, 18, rfL [(4, n + 4), (3, n + 3), (2, n + 2), (1, n + 1), (0, n)] [5, 6, 7, 8, 9]))) k0 = .inr (.inl (2, 18, rfL [(4, n + 4), (3, n + 3), (2, n + 2), (1, n + 1), (0, n)] [5, 6, 7, 8, 9])) := va_up_self ..
  refine j_aload_n C5 dX3_init_41 rfl rfl ?_
  refine j_bipush (v := 12) C5 dX3_init_42 (by decide) ?_
  refine j_nap (k0 := k0) (j := 5) (t := 0) (N := 12) (fty := .array .int) C5 N dX3_init_44 dX3_init_46 (by omega) hS5 (by rw [va_up_ne _ _ (by omega)]; exact f5) (g 5 (by decide)) hc5 rfl ar_int (fun _ => rfl) raI (by decide +kernel) (by decide) (by decide) (by decide) rfl inX3 tyX3_ok nmX3 (by decide) lfRX3_27 rfl rfl rfl (by decide +kernel) (fun _ => rfl) (fun _ => rfl) (fun ad6 hA6 hc6 => ?_)
  rw [va_up2] at hc6 ⊢
  rw [← hA6 k0 (by omega), ← hA6 pp (by omega)]
  have C6 := C5.g (a := 1) (b := 12) (by decide) (by decide)
  have hS6 : va_up S k0 (.inr (.inl (2, 18, rfL [(5, n + 5), (4, n + 4), (3, n + 3), (2, n + 2), (1, n + 1), (0, n)] [6, 7, 8, 9]))) k0 = .inr (.inl (2, 18, rfL [(5, n + 5), (4, n + 4), (3, n + 3), (2, n + 2), (1, n + 1), (0, n)] [6, 7, 8, 9])) := va_up_self ..
  refine j_aload_n C6 dX3_init_49 rfl rfl ?_
  refine j_bipush (v := 12) C6 dX3_init_50 (by decide) ?_
  refine j_nap (k0 := k0) (j := 6) (t := 0) (N := 12) (fty := .array .int) C6 N dX3_init_52 dX3_init_54 (by omega) hS6 (by rw [va_up_ne _ _ (by omega)]; exact f6) (g 6 (by decide)) hc6 rfl ar_int (fun _ => rfl) raI (by decide +kernel) (by decide) (by decide) (by decide) rfl inX3 tyX3_ok nmX3 (by decide) lfRX3_30 rfl rfl rfl (by decide +kernel) (fun _ => rfl) (fun _ => rfl) (fun ad7 hA7 hc7 => ?_)
  rw [va_up2] at hc7 ⊢
  rw [← hA7 k0 (by omega), ← hA7 pp (by omega)]
  have C7 := C6.g (a := 1) (b := 12) (by decide) (by decide)
  have hS7 : va_up S k0 (.inr (.inl (2, 18, rfL [(6, n + 6), (5, n + 5), (4, n + 4), (3, n + 3), (2, n + 2), (1, n + 1), (0, n)] [7, 8, 9]))) k0 = .inr (.inl (2, 18, rfL [(6, n + 6), (5, n + 5), (4, n + 4), (3, n + 3), (2, n + 2), (1, n + 1), (0, n)] [7, 8, 9])) := va_up_self ..
  refine j_aload_n C7 dX3_init_57 rfl rfl ?_
  refine j_bipush (v := 12) C7 dX3_init_58 (by decide) ?_
  refine j_nap (k0 := k0) (j := 7) (t := 0) (N := 12) (fty := .array .int) C7 N dX3_init_60 dX3_init_62 (by omega) hS7 (by rw [va_up_ne _ _ (by omega)]; exact f7) (g 7 (by decide)) hc7 rfl ar_int (fun _ => rfl) raI (by decide +kernel) (by decide) (by decide) (by decide) rfl inX3 tyX3_ok nmX3 (by decide) lfRX3_33 rfl rfl rfl (by decide +kernel) (fun _ => rfl) (fun _ => rfl) (fun ad8 hA8 hc8 => ?_)
  rw [va_up2] at hc8 ⊢
  rw [← hA8 k0 (by omega), ← hA8 pp (by omega)]
  have C8 := C7.g (a := 1) (b := 12) (by decide) (by decide)
  have hS8 : va_up S k0 (.inr (.inl (2, 18, rfL [(7, n + 7), (6, n + 6), (5, n + 5), (4, n + 4), (3, n + 3), (2, n + 2), (1, n + 1), (0, n)] [8, 9]))) k0 = .inr (.inl (2, 18, rfL [(7, n + 7), (6, n + 6), (5, n + 5), (4, n + 4), (3, n + 3), (2, n + 2), (1, n + 1), (0, n)] [8, 9])) := va_up_self ..
  refine j_aload_n C8 dX3_init_65 rfl rfl ?_
  refine j_sipush (v := 192) C8 dX3_init_66 (by decide) ?_
  refine j_nap (k0 := k0) (j := 8) (t := 0) (N := 192) (fty := .array .int) C8 N dX3_init_69 dX3_init_71 (by omega) hS8 (by rw [va_up_ne _ _ (by omega)]; exact f8) (g 8 (by decide)) hc8 rfl ar_int (fun _ => rfl) raI (by decide +kernel) (by decide) (by decide) (by decide) rfl inX3 tyX3_ok nmX3 (by decide) lfRX3_36 rfl rfl rfl (by decide +kernel) (fun _ => rfl) (fun _ => rfl) (fun ad9 hA9 hc9 => ?_)
  rw [va_up2] at hc9 ⊢
  rw [← hA9 k0 (by omega), ← hA9 pp (by omega)]
  have C9 := C8.g (a := 1) (b := 192) (by decide) (by decide)
  have hS9 : va_up S k0 (.inr (.inl (2, 18, rfL [(8, n + 8), (7, n + 7), (6, n + 6), (5, n + 5), (4, n + 4), (3, n + 3), (2, n + 2), (1, n + 1), (0, n)] [9]))) k0 = .inr (.inl (2, 18, rfL [(8, n + 8), (7, n + 7), (6, n + 6), (5, n + 5), (4, n + 4), (3, n + 3), (2, n + 2), (1, n + 1), (0, n)] [9])) := va_up_self ..
  refine j_aload_n C9 dX3_init_74 rfl rfl ?_
  refine j_aload_n C9 dX3_init_75 rfl rfl ?_
  refine j_putr (j := 9) (r := pp) (ty := .object "ReplayBox$Program") C9 dX3_init_76 (by omega) hS9 rfl inX3 tyX3_ok nmX3 (by decide) lfRX3_39 rfl rfl (by decide +kernel) (fun _ => rfl) (fun _ => rfl) ?_
  rw [rfL_put, va_up2]
  have hc9 := hc9.set (k := k0) (rfL_cl0 (j := 9) (r := pp) (by have q := hc9 k0 (by omega); rw [va_up_self] at q; exact q) (by omega))
  rw [va_up2] at hc9
  have hS9 : va_up S k0 (.inr (.inl (2, 18, rfL [(9, pp), (8, n + 8), (7, n + 7), (6, n + 6), (5, n + 5), (4, n + 4), (3, n + 3), (2, n + 2), (1, n + 1), (0, n)] []))) k0 = .inr (.inl (2, 18, rfL [(9, pp), (8, n + 8), (7, n + 7), (6, n + 6), (5, n + 5), (4, n + 4), (3, n + 3), (2, n + 2), (1, n + 1), (0, n)] [])) := va_up_self ..
  simp only [xg_xg]
  exact K (n + 9, ad9, va_up S k0 (.inr (.inl (2, 18, rfL [(9, pp), (8, n + 8), (7, n + 7), (6, n + 6), (5, n + 5), (4, n + 4), (3, n + 3), (2, n + 2), (1, n + 1), (0, n)] []))), h) 9 296 ⟨ad9, rfl, fun k hk => ((hA9 k (by omega)).trans ((hA8 k (by omega)).trans ((hA7 k (by omega)).trans ((hA6 k (by omega)).trans ((hA5 k (by omega)).trans ((hA4 k (by omega)).trans ((hA3 k (by omega)).trans ((hA2 k (by omega)).trans (hA1 k (by omega)))))))))), hc9⟩ (by decide) (by decide) _ _ dX3_init_79)
set_option maxRecDepth 100000 in
theorem GX10_init {k0 : Nat}  (hk : k0 < n)  (hS : S k0 = .inr (.inl (9, 17, rfL [] [0, 1, 2, 3, 4, 5, 6, 7, 8, 9, 10]))) (hcs : clS n S) (f0 : S (n) = .inl (0, 301)) (f1 : S (n + 1) = .inl (0, 301)) (f2 : S (n + 2) = .inl (0, 301)) (f3 : S (n + 3) = .inl (0, 301)) (f4 : S (n + 4) = .inl (0, 301)) (f5 : S (n + 5) = .inl (0, 301)) (f6 : S (n + 6) = .inl (0, 301)) (f7 : S (n + 7) = .inl (0, 301)) (f8 : S (n + 8) = .inl (0, 301)) (f9 : S (n + 9) = .inl (0, 300)) (f10 : S (n + 10) = .inl (0, 300)) (g : ∀ i, i < 11 → h (n + i) = fun _ => 0) : GM l0 yX10_init (.code yX10_init cX10_init 1 none) (mkR 1 11 3309 12) Y ad n S h [.ref (ad k0)] (gQv Y ad n S h (fun u => ∃ ad', u = (n + 11, ad', va_up S k0 (.inr (.inl (9, 17, rfL [(10, n + 10), (9, n + 9), (8, n + 8), (7, n + 7), (6, n + 6), (5, n + 5), (4, n + 4), (3, n + 3), (2, n + 2), (1, n + 1), (0, n)] []))), h) ∧ (∀ k, k < n → ad' k = ad k) ∧ clS (n + 11) (va_up S k0 (.inr (.inl (9, 17, rfL [(10, n + 10), (9, n + 9), (8, n + 8), (7, n + 7), (6, n + 6), (5, n + 5), (4, n + 4), (3, n + 3), (2, n + 2), (1, n + 1), (0, n)] [])))))) := met_gv (by decide) (Nat.le_of_ble_eq_true rfl) (fun X C E N K => by
  refine j_vl (lv' := [(0, .ref (ad k0))]) ?_ ⟨rfl, trivial⟩
  refine j_aload_n C dX10_init_0 rfl rfl ?_
  refine j_objInit C dX10_init_1 lo_RX10_3 oi_i oi_c (by decide) (by decide) ?_
  refine j_aload_n C dX10_init_4 rfl rfl ?_
  refine j_sipush (v := 301) C dX10_init_5 (by decide) ?_
  refine j_nap (k0 := k0) (j := 0) (t := 0) (N := 301) (fty := .array .int) C N dX10_init_8 dX10_init_10 (by omega) hS f0 (g 0 (by decide)) hcs rfl ar_int (fun _ => rfl) raI (by decide +kernel) (by decide) (by decide) (by decide) rfl inX10 tyX10_ok nmX10 (by decide) lfRX10_9 rfl rfl rfl (by decide +kernel) (fun _ => rfl) (fun _ => rfl) (fun ad1 hA1 hc1 => ?_)
  rw [← hA1 k0 (by omega)]
  have C1 := C.g (a := 1) (b := 301) (by decide) (by decide)
  have hS1 : va_up S k0 (.inr (.inl (9, 17, rfL [(0, n)] [1, 2, 3, 4, 5, 6, 7, 8, 9, 10]))) k0 = .inr (.inl (9, 17, rfL [(0, n)] [1, 2, 3, 4, 5, 6, 7, 8, 9, 10])) := va_up_self ..
  refine j_aload_n C1 dX10_init_13 rfl rfl ?_
  refine j_sipush (v := 301) C1 dX10_init_14 (by decide) ?_
  refine j_nap (k0 := k0) (j := 1) (t := 0) (N := 301) (fty := .array .int) C1 N dX10_init_17 dX10_init_19 (by omega) hS1 (by rw [va_up_ne _ _ (by omega)]; exact f1) (g 1 (by decide)) hc1 rfl ar_int (fun _ => rfl) raI (by decide +kernel) (by decide) (by decide) (by decide) rfl inX10 tyX10_ok nmX10 (by decide) lfRX10_15 rfl rfl rfl (by decide +kernel) (fun _ => rfl) (fun _ => rfl) (fun ad2 hA2 hc2 => ?_)
  rw [va_up2] at hc2 ⊢
  rw [← hA2 k0 (by omega)]
  have C2 := C1.g (a := 1) (b := 301) (by decide) (by decide)
  have hS2 : va_up S k0 (.inr (.inl (9, 17, rfL [(1, n + 1), (0, n)] [2, 3, 4, 5, 6, 7, 8, 9, 10]))) k0 = .inr (.inl (9, 17, rfL [(1, n + 1), (0, n)] [2, 3, 4, 5, 6, 7, 8, 9, 10])) := va_up_self ..
  refine j_aload_n C2 dX10_init_22 rfl rfl ?_
  refine j_sipush (v := 301) C2 dX10_init_23 (by decide) ?_
  refine j_nap (k0 := k0) (j := 2) (t := 0) (N := 301) (fty := .array .int) C2 N dX10_init_26 dX10_init_28 (by omega) hS2 (by rw [va_up_ne _ _ (by omega)]; exact f2) (g 2 (by decide)) hc2 rfl ar_int (fun _ => rfl) raI (by decide +kernel) (by decide) (by decide) (by decide) rfl inX10 tyX10_ok nmX10 (by decide) lfRX10_18 rfl rfl rfl (by decide +kernel) (fun _ => rfl) (fun _ => rfl) (fun ad3 hA3 hc3 => ?_)
  rw [va_up2] at hc3 ⊢
  rw [← hA3 k0 (by omega)]
  have C3 := C2.g (a := 1) (b := 301) (by decide) (by decide)
  have hS3 : va_up S k0 (.inr (.inl (9, 17, rfL [(2, n + 2), (1, n + 1), (0, n)] [3, 4, 5, 6, 7, 8, 9, 10]))) k0 = .inr (.inl (9, 17, rfL [(2, n + 2), (1, n + 1), (0, n)] [3, 4, 5, 6, 7, 8, 9, 10])) := va_up_self ..
  refine j_aload_n C3 dX10_init_31 rfl rfl ?_
  refine j_sipush (v := 301) C3 dX10_init_32 (by decide) ?_
  refine j_nap (k0 := k0) (j := 3) (t := 0) (N := 301) (fty := .array .int) C3 N dX10_init_35 dX10_init_37 (by omega) hS3 (by rw [va_up_ne _ _ (by omega)]; exact f3) (g 3 (by decide)) hc3 rfl ar_int (fun _ => rfl) raI (by decide +kernel) (by decide) (by decide) (by decide) rfl inX10 tyX10_ok nmX10 (by decide) lfRX10_21 rfl rfl rfl (by decide +kernel) (fun _ => rfl) (fun _ => rfl) (fun ad4 hA4 hc4 => ?_)
  rw [va_up2] at hc4 ⊢
  rw [← hA4 k0 (by omega)]
  have C4 := C3.g (a := 1) (b := 301) (by decide) (by decide)
  have hS4 : va_up S k0 (.inr (.inl (9, 17, rfL [(3, n + 3), (2, n + 2), (1, n + 1), (0, n)] [4, 5, 6, 7, 8, 9, 10]))) k0 = .inr (.inl (9, 17, rfL [(3, n + 3), (2, n + 2), (1, n + 1), (0, n)] [4, 5, 6, 7, 8, 9, 10])) := va_up_self ..
  refine j_aload_n C4 dX10_init_40 rfl rfl ?_
  refine j_sipush (v := 301) C4 dX10_init_41 (by decide) ?_
  refine j_nap (k0 := k0) (j := 4) (t := 0) (N := 301) (fty := .array .int) C4 N dX10_init_44 dX10_init_46 (by omega) hS4 (by rw [va_up_ne _ _ (by omega)]; exact f4) (g 4 (by decide)) hc4 rfl ar_int (fun _ => rfl) raI (by decide +kernel) (by decide) (by decide) (by decide) rfl inX10 tyX10_ok nmX10 (by decide) lfRX10_24 rfl rfl rfl (by decide +kernel) (fun _ => rfl) (fun _ => rfl) (fun ad5 hA5 hc5 => ?_)
  rw [va_up2] at hc5 ⊢
  rw [← hA5 k0 (by omega)]
  have C5 := C4.g (a := 1) (b := 301) (by decide) (by decide)
  have hS5 : va_up S k0 (.inr (.inl (9, 17, rfL [(4, n + 4), (3, n + 3), (2, n + 2), (1, n + 1), (0, n)] [5, 6, 7, 8, 9, 10]))) k0 = .inr (.inl (9, 17, rfL [(4, n + 4), (3, n + 3), (2, n + 2), (1, n + 1), (0, n)] [5, 6, 7, 8, 9, 10])) := va_up_self ..
  refine j_aload_n C5 dX10_init_49 rfl rfl ?_
  refine j_sipush (v := 301) C5 dX10_init_50 (by decide) ?_
  refine j_nap (k0 := k0) (j := 5) (t := 0) (N := 301) (fty := .array .int) C5 N dX10_init_53 dX10_init_55 (by omega) hS5 (by rw [va_up_ne _ _ (by omega)]; exact f5) (g 5 (by decide)) hc5 rfl ar_int (fun _ => rfl) raI (by decide +kernel) (by decide) (by decide) (by decide) rfl inX10 tyX10_ok nmX10 (by decide) lfRX10_27 rfl rfl rfl (by decide +kernel) (fun _ => rfl) (fun _ => rfl) (fun ad6 hA6 hc6 => ?_)
  rw [va_up2] at hc6 ⊢
  rw [← hA6 k0 (by omega)]
  have C6 := C5.g (a := 1) (b := 301) (by decide) (by decide)
  have hS6 : va_up S k0 (.inr (.inl (9, 17, rfL [(5, n + 5), (4, n + 4), (3, n + 3), (2, n + 2), (1, n + 1), (0, n)] [6, 7, 8, 9, 10]))) k0 = .inr (.inl (9, 17, rfL [(5, n + 5), (4, n + 4), (3, n + 3), (2, n + 2), (1, n + 1), (0, n)] [6, 7, 8, 9, 10])) := va_up_self ..
  refine j_aload_n C6 dX10_init_58 rfl rfl ?_
  refine j_sipush (v := 301) C6 dX10_init_59 (by decide) ?_
  refine j_nap (k0 := k0) (j := 6) (t := 0) (N := 301) (fty := .array .int) C6 N dX10_init_62 dX10_init_64 (by omega) hS6 (by rw [va_up_ne _ _ (by omega)]; exact f6) (g 6 (by decide)) hc6 rfl ar_int (fun _ => rfl) raI (by decide +kernel) (by decide) (by decide) (by decide) rfl inX10 tyX10_ok nmX10 (by decide) lfRX10_30 rfl rfl rfl (by decide +kernel) (fun _ => rfl) (fun _ => rfl) (fun ad7 hA7 hc7 => ?_)
  rw [va_up2] at hc7 ⊢
  rw [← hA7 k0 (by omega)]
  have C7 := C6.g (a := 1) (b := 301) (by decide) (by decide)
  have hS7 : va_up S k0 (.inr (.inl (9, 17, rfL [(6, n + 6), (5, n + 5), (4, n + 4), (3, n + 3), (2, n + 2), (1, n + 1), (0, n)] [7, 8, 9, 10]))) k0 = .inr (.inl (9, 17, rfL [(6, n + 6), (5, n + 5), (4, n + 4), (3, n + 3), (2, n + 2), (1, n + 1), (0, n)] [7, 8, 9, 10])) := va_up_self ..
  refine j_aload_n C7 dX10_init_67 rfl rfl ?_
  refine j_sipush (v := 301) C7 dX10_init_68 (by decide) ?_
  refine j_nap (k0 := k0) (j := 7) (t := 0) (N := 301) (fty := .array .int) C7 N dX10_init_71 dX10_init_73 (by omega) hS7 (by rw [va_up_ne _ _ (by omega)]; exact f7) (g 7 (by decide)) hc7 rfl ar_int (fun _ => rfl) raI (by decide +kernel) (by decide) (by decide) (by decide) rfl inX10 tyX10_ok nmX10 (by decide) lfRX10_33 rfl rfl rfl (by decide +kernel) (fun _ => rfl) (fun _ => rfl) (fun ad8 hA8 hc8 => ?_)
  rw [va_up2] at hc8 ⊢
  rw [← hA8 k0 (by omega)]
  have C8 := C7.g (a := 1) (b := 301) (by decide) (by decide)
  have hS8 : va_up S k0 (.inr (.inl (9, 17, rfL [(7, n + 7), (6, n + 6), (5, n + 5), (4, n + 4), (3, n + 3), (2, n + 2), (1, n + 1), (0, n)] [8, 9, 10]))) k0 = .inr (.inl (9, 17, rfL [(7, n + 7), (6, n + 6), (5, n + 5), (4, n + 4), (3, n + 3), (2, n + 2), (1, n + 1), (0, n)] [8, 9, 10])) := va_up_self ..
  refine j_aload_n C8 dX10_init_76 rfl rfl ?_
  refine j_sipush (v := 301) C8 dX10_init_77 (by decide) ?_
  refine j_nap (k0 := k0) (j := 8) (t := 0) (N := 301) (fty := .array .int) C8 N dX10_init_80 dX10_init_82 (by omega) hS8 (by rw [va_up_ne _ _ (by omega)]; exact f8) (g 8 (by decide)) hc8 rfl ar_int (fun _ => rfl) raI (by decide +kernel) (by decide) (by decide) (by decide) rfl inX10 tyX10_ok nmX10 (by decide) lfRX10_36 rfl rfl rfl (by decide +kernel) (fun _ => rfl) (fun _ => rfl) (fun ad9 hA9 hc9 => ?_)
  rw [va_up2] at hc9 ⊢
  rw [← hA9 k0 (by omega)]
  have C9 := C8.g (a := 1) (b := 301) (by decide) (by decide)
  have hS9 : va_up S k0 (.inr (.inl (9, 17, rfL [(8, n + 8), (7, n + 7), (6, n + 6), (5, n + 5), (4, n + 4), (3, n + 3), (2, n + 2), (1, n + 1), (0, n)] [9, 10]))) k0 = .inr (.inl (9, 17, rfL [(8, n + 8), (7, n + 7), (6, n + 6), (5, n + 5), (4, n + 4), (3, n + 3), (2, n + 2), (1, n + 1), (0, n)] [9, 10])) := va_up_self ..
  refine j_aload_n C9 dX10_init_85 rfl rfl ?_
  refine j_sipush (v := 300) C9 dX10_init_86 (by decide) ?_
  refine j_nap (k0 := k0) (j := 9) (t := 0) (N := 300) (fty := .array .int) C9 N dX10_init_89 dX10_init_91 (by omega) hS9 (by rw [va_up_ne _ _ (by omega)]; exact f9) (g 9 (by decide)) hc9 rfl ar_int (fun _ => rfl) raI (by decide +kernel) (by decide) (by decide) (by decide) rfl inX10 tyX10_ok nmX10 (by decide) lfRX10_39 rfl rfl rfl (by decide +kernel) (fun _ => rfl) (fun _ => rfl) (fun ad10 hA10 hc10 => ?_)
  rw [va_up2] at hc10 ⊢
  rw [← hA10 k0 (by omega)]
  have C10 := C9.g (a := 1) (b := 300) (by decide) (by decide)
  have hS10 : va_up S k0 (.inr (.inl (9, 17, rfL [(9, n + 9), (8, n + 8), (7, n + 7), (6, n + 6), (5, n + 5), (4, n + 4), (3, n + 3), (2, n + 2), (1, n + 1), (0, n)] [10]))) k0 = .inr (.inl (9, 17, rfL [(9, n + 9), (8, n + 8), (7, n + 7), (6, n + 6), (5, n + 5), (4, n + 4), (3, n + 3), (2, n + 2), (1, n + 1), (0, n)] [10])) := va_up_self ..
  refine j_aload_n C10 dX10_init_94 rfl rfl ?_
  refine j_sipush (v := 300) C10 dX10_init_95 (by decide) ?_
  refine j_nap (k0 := k0) (j := 10) (t := 0) (N := 300) (fty := .array .int) C10 N dX10_init_98 dX10_init_100 (by omega) hS10 (by rw [va_up_ne _ _ (by omega)]; exact f10) (g 10 (by decide)) hc10 rfl ar_int (fun _ => rfl) raI (by decide +kernel) (by decide) (by decide) (by decide) rfl inX10 tyX10_ok nmX10 (by decide) lfRX10_42 rfl rfl rfl (by decide +kernel) (fun _ => rfl) (fun _ => rfl) (fun ad11 hA11 hc11 => ?_)
  rw [va_up2] at hc11 ⊢
  rw [← hA11 k0 (by omega)]
  have C11 := C10.g (a := 1) (b := 300) (by decide) (by decide)
  have hS11 : va_up S k0 (.inr (.inl (9, 17, rfL [(10, n + 10), (9, n + 9), (8, n + 8), (7, n + 7), (6, n + 6), (5, n + 5), (4, n + 4), (3, n + 3), (2, n + 2), (1, n + 1), (0, n)] []))) k0 = .inr (.inl (9, 17, rfL [(10, n + 10), (9, n + 9), (8, n + 8), (7, n + 7), (6, n + 6), (5, n + 5), (4, n + 4), (3, n + 3), (2, n + 2), (1, n + 1), (0, n)] [])) := va_up_self ..
  simp only [xg_xg]
  exact K (n + 11, ad11, va_up S k0 (.inr (.inl (9, 17, rfL [(10, n + 10), (9, n + 9), (8, n + 8), (7, n + 7), (6, n + 6), (5, n + 5), (4, n + 4), (3, n + 3), (2, n + 2), (1, n + 1), (0, n)] []))), h) 11 3309 ⟨ad11, rfl, fun k hk => ((hA11 k (by omega)).trans ((hA10 k (by omega)).trans ((hA9 k (by omega)).trans ((hA8 k (by omega)).trans ((hA7 k (by omega)).trans ((hA6 k (by omega)).trans ((hA5 k (by omega)).trans ((hA4 k (by omega)).trans ((hA3 k (by omega)).trans ((hA2 k (by omega)).trans (hA1 k (by omega)))))))))))), hc11⟩ (by decide) (by decide) _ _ dX10_init_103)
set_option maxRecDepth 100000 in
theorem GX4_init {k0 : Nat} {pp : Nat} (hk : k0 < n) (hpp : pp < n) (hS : S k0 = .inr (.inl (3, 7, rfL [] [1, 2, 3, 4, 0]))) (hcs : clS n S) (f0 : S (n) = .inl (0, 1204)) (f1 : S (n + 1) = .inl (0, 16)) (f2 : S (n + 2) = .inl (0, 48)) (f3 : S (n + 3) = .inl (0, 301)) (g : ∀ i, i < 4 → h (n + i) = fun _ => 0) : GM l0 yX4_init (.code yX4_init cX4_init 2 none) (mkR 1 4 1569 12) Y ad n S h [.ref (ad k0), .ref (ad pp)] (gQv Y ad n S h (fun u => ∃ ad', u = (n + 4, ad', va_up S k0 (.inr (.inl (3, 7, rfL [(0, pp), (4, n + 3), (3, n + 2), (2, n + 1), (1, n)] []))), h) ∧ (∀ k, k < n → ad' k = ad k) ∧ clS (n + 4) (va_up S k0 (.inr (.inl (3, 7, rfL [(0, pp), (4, n + 3), (3, n + 2), (2, n + 1), (1, n)] [])))))) := met_gv (by decide) (Nat.le_of_ble_eq_true rfl) (fun X C E N K => by
  refine j_vl (lv' := [(0, .ref (ad k0)), (1, .ref (ad pp))]) ?_ ⟨rfl, rfl, trivial⟩
  refine j_aload_n C dX4_init_0 rfl rfl ?_
  refine j_objInit C dX4_init_1 lo_RX4_3 oi_i oi_c (by decide) (by decide) ?_
  refine j_aload_n C dX4_init_4 rfl rfl ?_
  refine j_sipush (v := 1204) C dX4_init_5 (by decide) ?_
  refine j_nap (k0 := k0) (j := 1) (t := 0) (N := 1204) (fty := .array .int) C N dX4_init_8 dX4_init_10 (by omega) hS f0 (g 0 (by decide)) hcs rfl ar_int (fun _ => rfl) raI (by decide +kernel) (by decide) (by decide) (by decide) rfl inX4 tyX4_ok nmX4 (by decide) lfRX4_9 rfl rfl rfl (by decide +kernel) (fun _ => rfl) (fun _ => rfl) (fun ad1 hA1 hc1 => ?_)
  rw [← hA1 k0 (by omega), ← hA1 pp (by omega)]
  have C1 := C.g (a := 1) (b := 1204) (by decide) (by decide)
  have hS1 : va_up S k0 (.inr (.inl (3, 7, rfL [(1, n)] [2, 3, 4, 0]))) k0 = .inr (.inl (3, 7, rfL [(1, n)] [2, 3, 4, 0])) := va_up_self ..
  refine j_aload_n C1 dX4_init_13 rfl rfl ?_
  refine j_bipush (v := 16) C1 dX4_init_14 (by decide) ?_
  refine j_nap (k0 := k0) (j := 2) (t := 0) (N := 16) (fty := .array .int) C1 N dX4_init_16 dX4_init_18 (by omega) hS1 (by rw [va_up_ne _ _ (by omega)]; exact f1) (g 1 (by decide)) hc1 rfl ar_int (fun _ => rfl) raI (by decide +kernel) (by decide) (by decide) (by decide) rfl inX4 tyX4_ok nmX4 (by decide) lfRX4_15 rfl rfl rfl (by decide +kernel) (fun _ => rfl) (fun _ => rfl) (fun ad2 hA2 hc2 => ?_)
  rw [va_up2] at hc2 ⊢
  rw [← hA2 k0 (by omega), ← hA2 pp (by omega)]
  have C2 := C1.g (a := 1) (b := 16) (by decide) (by decide)
  have hS2 : va_up S k0 (.inr (.inl (3, 7, rfL [(2, n + 1), (1, n)] [3, 4, 0]))) k0 = .inr (.inl (3, 7, rfL [(2, n + 1), (1, n)] [3, 4, 0])) := va_up_self ..
  refine j_aload_n C2 dX4_init_21 rfl rfl ?_
  refine j_bipush (v := 48) C2 dX4_init_22 (by decide) ?_
  refine j_nap (k0 := k0) (j := 3) (t := 0) (N := 48) (fty := .array .int) C2 N dX4_init_24 dX4_init_26 (by omega) hS2 (by rw [va_up_ne _ _ (by omega)]; exact f2) (g 2 (by decide)) hc2 rfl ar_int (fun _ => rfl) raI (by decide +kernel) (by decide) (by decide) (by decide) rfl inX4 tyX4_ok nmX4 (by decide) lfRX4_18 rfl rfl rfl (by decide +kernel) (fun _ => rfl) (fun _ => rfl) (fun ad3 hA3 hc3 => ?_)
  rw [va_up2] at hc3 ⊢
  rw [← hA3 k0 (by omega), ← hA3 pp (by omega)]
  have C3 := C2.g (a := 1) (b := 48) (by decide) (by decide)
  have hS3 : va_up S k0 (.inr (.inl (3, 7, rfL [(3, n + 2), (2, n + 1), (1, n)] [4, 0]))) k0 = .inr (.inl (3, 7, rfL [(3, n + 2), (2, n + 1), (1, n)] [4, 0])) := va_up_self ..
  refine j_aload_n C3 dX4_init_29 rfl rfl ?_
  refine j_sipush (v := 301) C3 dX4_init_30 (by decide) ?_
  refine j_nap (k0 := k0) (j := 4) (t := 0) (N := 301) (fty := .array .int) C3 N dX4_init_33 dX4_init_35 (by omega) hS3 (by rw [va_up_ne _ _ (by omega)]; exact f3) (g 3 (by decide)) hc3 rfl ar_int (fun _ => rfl) raI (by decide +kernel) (by decide) (by decide) (by decide) rfl inX4 tyX4_ok nmX4 (by decide) lfRX4_21 rfl rfl rfl (by decide +kernel) (fun _ => rfl) (fun _ => rfl) (fun ad4 hA4 hc4 => ?_)
  rw [va_up2] at hc4 ⊢
  rw [← hA4 k0 (by omega), ← hA4 pp (by omega)]
  have C4 := C3.g (a := 1) (b := 301) (by decide) (by decide)
  have hS4 : va_up S k0 (.inr (.inl (3, 7, rfL [(4, n + 3), (3, n + 2), (2, n + 1), (1, n)] [0]))) k0 = .inr (.inl (3, 7, rfL [(4, n + 3), (3, n + 2), (2, n + 1), (1, n)] [0])) := va_up_self ..
  refine j_aload_n C4 dX4_init_38 rfl rfl ?_
  refine j_aload_n C4 dX4_init_39 rfl rfl ?_
  refine j_putFr (j := 0) (r := pp) (ty := .object "ReplayBox$Trace") C4 N dX4_init_40 (by omega) hS4 rfl inX4 tyX4_ok nmX4 (by decide) lfRX4_24 rfl rfl rfl (by decide +kernel) (fun _ => rfl) (fun _ => rfl) ?_
  rw [rfL_put, va_up2]
  have hc4 := hc4.set (k := k0) (rfL_cl0 (j := 0) (r := pp) (by have q := hc4 k0 (by omega); rw [va_up_self] at q; exact q) (by omega))
  rw [va_up2] at hc4
  have hS4 : va_up S k0 (.inr (.inl (3, 7, rfL [(0, pp), (4, n + 3), (3, n + 2), (2, n + 1), (1, n)] []))) k0 = .inr (.inl (3, 7, rfL [(0, pp), (4, n + 3), (3, n + 2), (2, n + 1), (1, n)] [])) := va_up_self ..
  simp only [xg_xg]
  exact K (n + 4, ad4, va_up S k0 (.inr (.inl (3, 7, rfL [(0, pp), (4, n + 3), (3, n + 2), (2, n + 1), (1, n)] []))), h) 4 1569 ⟨ad4, rfl, fun k hk => ((hA4 k (by omega)).trans ((hA3 k (by omega)).trans ((hA2 k (by omega)).trans (hA1 k (by omega))))), hc4⟩ (by decide) (by decide) _ _ dX4_init_43)
set_option maxRecDepth 100000 in
theorem GX6_init {k0 : Nat} {pp : Nat} {pq : Nat} (hk : k0 < n) (hpp : pp < n) (hpq : pq < n) (hS : S k0 = .inr (.inl (5, 11, rfL [] [2, 3, 4, 5, 0, 1]))) (hcs : clS n S) (f0 : S (n) = .inr (.inr (4, 2, fun i => if i < 2 then some (n + 1 + i) else none))) (f1 : S (n + 1) = .inl (0, 300)) (f2 : S (n + 2) = .inl (0, 300)) (f3 : S (n + 3) = .inl (0, 2)) (f4 : S (n + 4) = .inl (0, 2)) (f5 : S (n + 5) = .inl (0, 2)) (g : ∀ i, i < 6 → h (n + i) = fun _ => 0) : GM l0 yX6_init (.code yX6_init cX6_init 3 none) (mkR 1 6 608 12) Y ad n S h [.ref (ad k0), .ref (ad pp), .ref (ad pq)] (gQv Y ad n S h (fun u => ∃ ad', u = (n + 6, ad', va_up S k0 (.inr (.inl (5, 11, rfL [(1, pq), (0, pp), (5, n + 5), (4, n + 4), (3, n + 3), (2, n)] []))), h) ∧ (∀ k, k < n → ad' k = ad k) ∧ clS (n + 6) (va_up S k0 (.inr (.inl (5, 11, rfL [(1, pq), (0, pp), (5, n + 5), (4, n + 4), (3, n + 3), (2, n)] [])))))) := met_gv (by decide) (Nat.le_of_ble_eq_true rfl) (fun X C E N K => by
  refine j_vl (lv' := [(0, .ref (ad k0)), (1, .ref (ad pp)), (2, .ref (ad pq))]) ?_ ⟨rfl, rfl, rfl, trivial⟩
  refine j_aload_n C dX6_init_0 rfl rfl ?_
  refine j_objInit C dX6_init_1 lo_RX6_3 oi_i oi_c (by decide) (by decide) ?_
  refine j_aload_n C dX6_init_4 rfl rfl ?_
  refine j_iconst (v := 2) C dX6_init_5 (by decide) ?_
  refine j_sipush (v := 300) C dX6_init_6 (by decide) ?_
  refine j_mna (N := 300) C E dX6_init_9 cl_RX6_9 ar_int (by decide) hcs f0 f1 f2 (g 0 (by decide)) (g 1 (by decide)) (g 2 (by decide)) (by decide) (by decide) (fun ad1 hA1 hc1 => ?_)
  rw [← hA1 k0 (by omega), ← hA1 pp (by omega), ← hA1 pq (by omega)]
  have C1 := C.g (a := 3) (b := 2 + 2 * 300) (by decide) (by decide)
  refine j_putFr (j := 2) (r := n) (ty := .array (.array .int)) C1 N dX6_init_13 (by omega) hS rfl inX6 tyX6_ok nmX6 (by decide) lfRX6_11 rfl rfl rfl (by decide +kernel) (fun _ => rfl) (fun _ => rfl) ?_
  rw [rfL_put]
  have hc1 := hc1.set (k := k0) (rfL_cl0 (j := 2) (r := n) (by have q := hc1 k0 (by omega); rw [hS] at q; exact q) (by omega))
  have hS1 : va_up S k0 (.inr (.inl (5, 11, rfL [(2, n)] [3, 4, 5, 0, 1]))) k0 = .inr (.inl (5, 11, rfL [(2, n)] [3, 4, 5, 0, 1])) := va_up_self ..
  refine j_aload_n C1 dX6_init_16 rfl rfl ?_
  refine j_iconst (v := 2) C1 dX6_init_17 (by decide) ?_
  refine j_nap (k0 := k0) (j := 3) (t := 0) (N := 2) (fty := .array .int) C1 N dX6_init_18 dX6_init_20 (by omega) hS1 (by rw [va_up_ne _ _ (by omega)]; exact f3) (g 3 (by decide)) hc1 rfl ar_int (fun _ => rfl) raI (by decide +kernel) (by decide) (by decide) (by decide) rfl inX6 tyX6_ok nmX6 (by decide) lfRX6_16 rfl rfl rfl (by decide +kernel) (fun _ => rfl) (fun _ => rfl) (fun ad2 hA2 hc2 => ?_)
  rw [va_up2] at hc2 ⊢
  rw [← hA2 k0 (by omega), ← hA2 pp (by omega), ← hA2 pq (by omega)]
  have C2 := C1.g (a := 1) (b := 2) (by decide) (by decide)
  have hS2 : va_up S k0 (.inr (.inl (5, 11, rfL [(3, n + 3), (2, n)] [4, 5, 0, 1]))) k0 = .inr (.inl (5, 11, rfL [(3, n + 3), (2, n)] [4, 5, 0, 1])) := va_up_self ..
  refine j_aload_n C2 dX6_init_23 rfl rfl ?_
  refine j_iconst (v := 2) C2 dX6_init_24 (by decide) ?_
  refine j_nap (k0 := k0) (j := 4) (t := 0) (N := 2) (fty := .array .int) C2 N dX6_init_25 dX6_init_27 (by omega) hS2 (by rw [va_up_ne _ _ (by omega)]; exact f4) (g 4 (by decide)) hc2 rfl ar_int (fun _ => rfl) raI (by decide +kernel) (by decide) (by decide) (by decide) rfl inX6 tyX6_ok nmX6 (by decide) lfRX6_20 rfl rfl rfl (by decide +kernel) (fun _ => rfl) (fun _ => rfl) (fun ad3 hA3 hc3 => ?_)
  rw [va_up2] at hc3 ⊢
  rw [← hA3 k0 (by omega), ← hA3 pp (by omega), ← hA3 pq (by omega)]
  have C3 := C2.g (a := 1) (b := 2) (by decide) (by decide)
  have hS3 : va_up S k0 (.inr (.inl (5, 11, rfL [(4, n + 4), (3, n + 3), (2, n)] [5, 0, 1]))) k0 = .inr (.inl (5, 11, rfL [(4, n + 4), (3, n + 3), (2, n)] [5, 0, 1])) := va_up_self ..
  refine j_aload_n C3 dX6_init_30 rfl rfl ?_
  refine j_iconst (v := 2) C3 dX6_init_31 (by decide) ?_
  refine j_nap (k0 := k0) (j := 5) (t := 0) (N := 2) (fty := .array .int) C3 N dX6_init_32 dX6_init_34 (by omega) hS3 (by rw [va_up_ne _ _ (by omega)]; exact f5) (g 5 (by decide)) hc3 rfl ar_int (fun _ => rfl) raI (by decide +kernel) (by decide) (by decide) (by decide) rfl inX6 tyX6_ok nmX6 (by decide) lfRX6_23 rfl rfl rfl (by decide +kernel) (fun _ => rfl) (fun _ => rfl) (fun ad4 hA4 hc4 => ?_)
  rw [va_up2] at hc4 ⊢
  rw [← hA4 k0 (by omega), ← hA4 pp (by omega), ← hA4 pq (by omega)]
  have C4 := C3.g (a := 1) (b := 2) (by decide) (by decide)
  have hS4 : va_up S k0 (.inr (.inl (5, 11, rfL [(5, n + 5), (4, n + 4), (3, n + 3), (2, n)] [0, 1]))) k0 = .inr (.inl (5, 11, rfL [(5, n + 5), (4, n + 4), (3, n + 3), (2, n)] [0, 1])) := va_up_self ..
  refine j_aload_n C4 dX6_init_37 rfl rfl ?_
  refine j_aload_n C4 dX6_init_38 rfl rfl ?_
  refine j_putFr (j := 0) (r := pp) (ty := .object "ReplayBox$Program") C4 N dX6_init_39 (by omega) hS4 rfl inX6 tyX6_ok nmX6 (by decide) lfRX6_26 rfl rfl rfl (by decide +kernel) (fun _ => rfl) (fun _ => rfl) ?_
  rw [rfL_put, va_up2]
  have hc4 := hc4.set (k := k0) (rfL_cl0 (j := 0) (r := pp) (by have q := hc4 k0 (by omega); rw [va_up_self] at q; exact q) (by omega))
  rw [va_up2] at hc4
  have hS4 : va_up S k0 (.inr (.inl (5, 11, rfL [(0, pp), (5, n + 5), (4, n + 4), (3, n + 3), (2, n)] [1]))) k0 = .inr (.inl (5, 11, rfL [(0, pp), (5, n + 5), (4, n + 4), (3, n + 3), (2, n)] [1])) := va_up_self ..
  refine j_aload_n C4 dX6_init_42 rfl rfl ?_
  refine j_aload_n C4 dX6_init_43 rfl rfl ?_
  refine j_putFr (j := 1) (r := pq) (ty := .object "ReplayBox$Machine") C4 N dX6_init_44 (by omega) hS4 rfl inX6 tyX6_ok nmX6 (by decide) lfRX6_30 rfl rfl rfl (by decide +kernel) (fun _ => rfl) (fun _ => rfl) ?_
  rw [rfL_put, va_up2]
  have hc4 := hc4.set (k := k0) (rfL_cl0 (j := 1) (r := pq) (by have q := hc4 k0 (by omega); rw [va_up_self] at q; exact q) (by omega))
  rw [va_up2] at hc4
  have hS4 : va_up S k0 (.inr (.inl (5, 11, rfL [(1, pq), (0, pp), (5, n + 5), (4, n + 4), (3, n + 3), (2, n)] []))) k0 = .inr (.inl (5, 11, rfL [(1, pq), (0, pp), (5, n + 5), (4, n + 4), (3, n + 3), (2, n)] [])) := va_up_self ..
  simp only [xg_xg]
  exact K (n + 6, ad4, va_up S k0 (.inr (.inl (5, 11, rfL [(1, pq), (0, pp), (5, n + 5), (4, n + 4), (3, n + 3), (2, n)] []))), h) 6 608 ⟨ad4, rfl, fun k hk => ((hA4 k (by omega)).trans ((hA3 k (by omega)).trans ((hA2 k (by omega)).trans (hA1 k (by omega))))), hc4⟩ (by decide) (by decide) _ _ dX6_init_47)
end INITC
end MG_41_initc
section MG_42_initb
/-! THE BOX'S CONSTRUCTOR: places in the order in which they are made -/
def SI (k : Nat) : ph_E := match k with
  | 0 => .inr (.inl (10, 13, rfL [(7, 59), (6, 52), (5, 47), (4, 35), (3, 25), (2, 15), (1, 8), (0, 1)] []))
  | 1 => .inr (.inl (4, 8, rfL [(5, 7), (4, 6), (3, 5), (2, 4), (1, 3), (0, 2)] []))
  | 2 => .inl (0, 4)
  | 3 => .inl (0, 384)
  | 4 => .inl (0, 12)
  | 5 => .inl (0, 30)
  | 6 => .inl (0, 40)
  | 7 => .inl (0, 40)
  | 8 => .inr (.inl (4, 8, rfL [(5, 14), (4, 13), (3, 12), (2, 11), (1, 10), (0, 9)] []))
  | 9 => .inl (0, 4)
  | 10 => .inl (0, 384)
  | 11 => .inl (0, 12)
  | 12 => .inl (0, 30)
  | 13 => .inl (0, 40)
  | 14 => .inl (0, 40)
  | 15 => .inr (.inl (2, 18, rfL [(9, 8), (8, 24), (7, 23), (6, 22), (5, 21), (4, 20), (3, 19), (2, 18), (1, 17), (0, 16)] []))
  | 16 => .inl (0, 28)
  | 17 => .inl (0, 28)
  | 18 => .inl (0, 4)
  | 19 => .inl (0, 4)
  | 20 => .inl (0, 4)
  | 21 => .inl (0, 12)
  | 22 => .inl (0, 12)
  | 23 => .inl (0, 12)
  | 24 => .inl (0, 192)
  | 25 => .inr (.inl (2, 18, rfL [(9, 1), (8, 34), (7, 33), (6, 32), (5, 31), (4, 30), (3, 29), (2, 28), (1, 27), (0, 26)] []))
  | 26 => .inl (0, 28)
  | 27 => .inl (0, 28)
  | 28 => .inl (0, 4)
  | 29 => .inl (0, 4)
  | 30 => .inl (0, 4)
  | 31 => .inl (0, 12)
  | 32 => .inl (0, 12)
  | 33 => .inl (0, 12)
  | 34 => .inl (0, 192)
  | 35 => .inr (.inl (9, 17, rfL [(10, 46), (9, 45), (8, 44), (7, 43), (6, 42), (5, 41), (4, 40), (3, 39), (2, 38), (1, 37), (0, 36)] []))
  | 36 => .inl (0, 301)
  | 37 => .inl (0, 301)
  | 38 => .inl (0, 301)
  | 39 => .inl (0, 301)
  | 40 => .inl (0, 301)
  | 41 => .inl (0, 301)
  | 42 => .inl (0, 301)
  | 43 => .inl (0, 301)
  | 44 => .inl (0, 301)
  | 45 => .inl (0, 300)
  | 46 => .inl (0, 300)
  | 47 => .inr (.inl (3, 7, rfL [(0, 35), (4, 51), (3, 50), (2, 49), (1, 48)] []))
  | 48 => .inl (0, 1204)
  | 49 => .inl (0, 16)
  | 50 => .inl (0, 48)
  | 51 => .inl (0, 301)
  | 52 => .inr (.inl (5, 11, rfL [(1, 25), (0, 1), (5, 58), (4, 57), (3, 56), (2, 53)] []))
  | 53 => .inr (.inr (4, 2, fun i => if i < 2 then some (53 + 1 + i) else none))
  | 54 => .inl (0, 300)
  | 55 => .inl (0, 300)
  | 56 => .inl (0, 2)
  | 57 => .inl (0, 2)
  | 58 => .inl (0, 2)
  | 59 => .inr (.inr (3, 8, fun _ => none))
  | _ => .inl (0, 0)
theorem FE_g {X : fj_X} {a b : Nat} (E : FE X) : FE (xg X a b) := E
theorem FN_g {X : fj_X} {a b : Nat} {m : String} (E : FN X m) : FN (xg X a b) m := E
def h00 : ph_H := fun _ _ => 0
section INITB
variable {l0 : Launch} {Y : fj_Y} {ad : Nat → Nat}
set_option maxRecDepth 100000 in
set_option maxHeartbeats 4000000 in
theorem GX11_init : GM l0 yX11_init (.code yX11_init cX11_init 1 none) (mkR 2 59 7193 40) Y ad 1 (va_up SI 0 (.inr (.inl (10, 13, rfL [] [0, 1, 2, 3, 4, 5, 6, 7])))) h00 [.ref (ad 0)] (gQv Y ad 1 (va_up SI 0 (.inr (.inl (10, 13, rfL [] [0, 1, 2, 3, 4, 5, 6, 7])))) h00 (fun u => ∃ ad', u = (60, ad', SI, hs h00 0 12 (-2)) ∧ ad' 0 = ad 0)) := met_gv (by decide) (Nat.le_of_ble_eq_true rfl) (fun X C E N K => by
  refine j_vl (lv' := [(0, .ref (ad 0))]) ?_ ⟨rfl, trivial⟩
  have hc0 : clS 1 (va_up SI 0 (.inr (.inl (10, 13, rfL [] [0, 1, 2, 3, 4, 5, 6, 7])))) := fun k hk => by
    have e : k = 0 := by omega
    subst e
    rw [va_up_self]
    exact rfL_null
  refine j_aload_n C dX11_init_0 rfl rfl ?_
  refine j_objInit C dX11_init_1 lo_RX11_3 oi_i oi_c (by decide) (by decide) ?_
  refine j_aload_n C dX11_init_4 rfl rfl ?_
  refine j_newS (ci := 4) (todo := [0, 1, 2, 3, 4, 5]) (T := TX5) C dX11_init_5 rfl inX5 tyX5_ok cl_RX11_9 is_X5 iz_X5 (by decide +kernel) rfl hc0 (by decide) (by decide) (fun ad1 hA1 hc1 => ?_)
  rw [← hA1 0 (by decide)]
  have C1 := C.g (a := 1) (b := 8) (by decide) (by decide)
  have E1 := FE_g (a := 1) (b := 8) E
  have N1 := FN_g (a := 1) (b := 8) N
  refine j_dup C1 dX11_init_8 rfl ?_
  refine j_gv C1 (gr_IN (host := "ReplayBox") (b := ad1 1) (av := []) C1 E1 (GX5_init (k0 := 1) (by decide) (va_up_self ..) hc1 rfl rfl rfl rfl rfl rfl (fun _ _ => rfl)) dX11_init_9 (CKX5_init (by decide)) ⟨by decide, by decide⟩ (by decide +kernel) in_X5_init rfl rfl (Nat.le_of_ble_eq_true rfl)) ?_
  rintro u ⟨ad2, rfl, hA2, hc2⟩
  have eS2 : va_up (va_up (va_up SI 0 (.inr (.inl (10, 13, rfL [] [0, 1, 2, 3, 4, 5, 6, 7])))) 1 (.inr (.inl (4, 8, rfL [] [0, 1, 2, 3, 4, 5])))) 1 (.inr (.inl (4, 8, rfL [(5, 7), (4, 6), (3, 5), (2, 4), (1, 3), (0, 2)] []))) = va_up SI 0 (.inr (.inl (10, 13, rfL [] [0, 1, 2, 3, 4, 5, 6, 7]))) := va_up2.trans (va_up_id rfl)
  have hc2 : clS 8 (va_up SI 0 (.inr (.inl (10, 13, rfL [] [0, 1, 2, 3, 4, 5, 6, 7])))) := by rw [← eS2]; exact hc2
  rw [← hA2 0 (by decide), ← hA2 1 (by decide)]
  have C2 := C1.g (a := 6) (b := 510) (by decide) (by decide)
  have E2 := FE_g (a := 6) (b := 510) E1
  have N2 := FN_g (a := 6) (b := 510) N1
  refine (show FJ _ Y ad2 8 (va_up SI 0 (.inr (.inl (10, 13, rfL [] [0, 1, 2, 3, 4, 5, 6, 7])))) h00 _ _ _ → _ from fun q => by rw [← eS2] at q; exact q) ?_
  refine j_putFr (j := 0) (r := 1) (ty := .object "ReplayBox$Program") C2 N2 dX11_init_12 (by decide) (va_up_self ..) rfl inX11 tyX11_ok nmX11 (by decide) lfRX11_12 rfl rfl rfl (by decide +kernel) (fun _ => rfl) (fun _ => rfl) ?_
  rw [rfL_put, va_up2]
  have hc2 := hc2.set (k := 0) (rfL_cl0 (j := 0) (r := 1) (by have q := hc2 0 (by decide); rw [va_up_self] at q; exact q) (by decide))
  rw [va_up2] at hc2
  refine j_aload_n C2 dX11_init_15 rfl rfl ?_
  refine j_newS (ci := 4) (todo := [0, 1, 2, 3, 4, 5]) (T := TX5) C2 dX11_init_16 rfl inX5 tyX5_ok cl_RX11_9 is_X5 iz_X5 (by decide +kernel) rfl hc2 (by decide) (by decide) (fun ad3 hA3 hc3 => ?_)
  rw [← hA3 0 (by decide)]
  have C3 := C2.g (a := 1) (b := 8) (by decide) (by decide)
  have E3 := FE_g (a := 1) (b := 8) E2
  have N3 := FN_g (a := 1) (b := 8) N2
  refine j_dup C3 dX11_init_19 rfl ?_
  refine j_gv C3 (gr_IN (host := "ReplayBox") (b := ad3 8) (av := []) C3 E3 (GX5_init (k0 := 8) (by decide) (va_up_self ..) hc3 rfl rfl rfl rfl rfl rfl (fun _ _ => rfl)) dX11_init_20 (CKX5_init (by decide)) ⟨by decide, by decide⟩ (by decide +kernel) in_X5_init rfl rfl (Nat.le_of_ble_eq_true rfl)) ?_
  rintro u ⟨ad4, rfl, hA4, hc4⟩
  have eS4 : va_up (va_up (va_up SI 0 (.inr (.inl (10, 13, rfL [(0, 1)] [1, 2, 3, 4, 5, 6, 7])))) 8 (.inr (.inl (4, 8, rfL [] [0, 1, 2, 3, 4, 5])))) 8 (.inr (.inl (4, 8, rfL [(5, 14), (4, 13), (3, 12), (2, 11), (1, 10), (0, 9)] []))) = va_up SI 0 (.inr (.inl (10, 13, rfL [(0, 1)] [1, 2, 3, 4, 5, 6, 7]))) := va_up2.trans (va_up_id rfl)
  have hc4 : clS 15 (va_up SI 0 (.inr (.inl (10, 13, rfL [(0, 1)] [1, 2, 3, 4, 5, 6, 7])))) := by rw [← eS4]; exact hc4
  rw [← hA4 0 (by decide), ← hA4 8 (by decide)]
  have C4 := C3.g (a := 6) (b := 510) (by decide) (by decide)
  have E4 := FE_g (a := 6) (b := 510) E3
  have N4 := FN_g (a := 6) (b := 510) N3
  refine (show FJ _ Y ad4 15 (va_up SI 0 (.inr (.inl (10, 13, rfL [(0, 1)] [1, 2, 3, 4, 5, 6, 7])))) h00 _ _ _ → _ from fun q => by rw [← eS4] at q; exact q) ?_
  refine j_putFr (j := 1) (r := 8) (ty := .object "ReplayBox$Program") C4 N4 dX11_init_23 (by decide) (va_up_self ..) rfl inX11 tyX11_ok nmX11 (by decide) lfRX11_16 rfl rfl rfl (by decide +kernel) (fun _ => rfl) (fun _ => rfl) ?_
  rw [rfL_put, va_up2]
  have hc4 := hc4.set (k := 0) (rfL_cl0 (j := 1) (r := 8) (by have q := hc4 0 (by decide); rw [va_up_self] at q; exact q) (by decide))
  rw [va_up2] at hc4
  refine j_aload_n C4 dX11_init_26 rfl rfl ?_
  refine j_newS (ci := 2) (todo := [0, 1, 2, 3, 4, 5, 6, 7, 8, 9]) (T := TX3) C4 dX11_init_27 rfl inX3 tyX3_ok cl_RX11_19 is_X3 iz_X3 (by decide +kernel) rfl hc4 (by decide) (by decide) (fun ad5 hA5 hc5 => ?_)
  rw [← hA5 0 (by decide)]
  have C5 := C4.g (a := 1) (b := 18) (by decide) (by decide)
  have E5 := FE_g (a := 1) (b := 18) E4
  have N5 := FN_g (a := 1) (b := 18) N4
  refine j_dup C5 dX11_init_30 rfl ?_
  refine j_aload_n C5 dX11_init_31 rfl rfl ?_
  refine gCRX11_16 (rf := rfL [(1, 8), (0, 1)] [2, 3, 4, 5, 6, 7]) (r := 8) C5 dX11_init_32 (by decide) rfl rfl ?_
  refine j_gv C5 (gr_I (b := ad5 15) (av := [.ref (ad5 8)]) C5 E5 (GX3_init (k0 := 15) (pp := 8) (by decide) (by decide) (va_up_self ..) hc5 rfl rfl rfl rfl rfl rfl rfl rfl rfl (fun _ _ => rfl)) dX11_init_35 (CKX3_init (by decide)) ⟨by decide, by decide⟩ lk_RX11_21 in_X3_init rfl rfl (Nat.le_of_ble_eq_true rfl)) ?_
  rintro u ⟨ad6, rfl, hA6, hc6⟩
  have eS6 : va_up (va_up (va_up SI 0 (.inr (.inl (10, 13, rfL [(1, 8), (0, 1)] [2, 3, 4, 5, 6, 7])))) 15 (.inr (.inl (2, 18, rfL [] [0, 1, 2, 3, 4, 5, 6, 7, 8, 9])))) 15 (.inr (.inl (2, 18, rfL [(9, 8), (8, 24), (7, 23), (6, 22), (5, 21), (4, 20), (3, 19), (2, 18), (1, 17), (0, 16)] []))) = va_up SI 0 (.inr (.inl (10, 13, rfL [(1, 8), (0, 1)] [2, 3, 4, 5, 6, 7]))) := va_up2.trans (va_up_id rfl)
  have hc6 : clS 25 (va_up SI 0 (.inr (.inl (10, 13, rfL [(1, 8), (0, 1)] [2, 3, 4, 5, 6, 7])))) := by rw [← eS6]; exact hc6
  rw [← hA6 0 (by decide), ← hA6 15 (by decide)]
  have C6 := C5.g (a := 9) (b := 296) (by decide) (by decide)
  have E6 := FE_g (a := 9) (b := 296) E5
  have N6 := FN_g (a := 9) (b := 296) N5
  refine (show FJ _ Y ad6 25 (va_up SI 0 (.inr (.inl (10, 13, rfL [(1, 8), (0, 1)] [2, 3, 4, 5, 6, 7])))) h00 _ _ _ → _ from fun q => by rw [← eS6] at q; exact q) ?_
  refine j_putFr (j := 2) (r := 15) (ty := .object "ReplayBox$Machine") C6 N6 dX11_init_38 (by decide) (va_up_self ..) rfl inX11 tyX11_ok nmX11 (by decide) lfRX11_24 rfl rfl rfl (by decide +kernel) (fun _ => rfl) (fun _ => rfl) ?_
  rw [rfL_put, va_up2]
  have hc6 := hc6.set (k := 0) (rfL_cl0 (j := 2) (r := 15) (by have q := hc6 0 (by decide); rw [va_up_self] at q; exact q) (by decide))
  rw [va_up2] at hc6
  refine j_aload_n C6 dX11_init_41 rfl rfl ?_
  refine j_newS (ci := 2) (todo := [0, 1, 2, 3, 4, 5, 6, 7, 8, 9]) (T := TX3) C6 dX11_init_42 rfl inX3 tyX3_ok cl_RX11_19 is_X3 iz_X3 (by decide +kernel) rfl hc6 (by decide) (by decide) (fun ad7 hA7 hc7 => ?_)
  rw [← hA7 0 (by decide)]
  have C7 := C6.g (a := 1) (b := 18) (by decide) (by decide)
  have E7 := FE_g (a := 1) (b := 18) E6
  have N7 := FN_g (a := 1) (b := 18) N6
  refine j_dup C7 dX11_init_45 rfl ?_
  refine j_aload_n C7 dX11_init_46 rfl rfl ?_
  refine gCRX11_12 (rf := rfL [(2, 15), (1, 8), (0, 1)] [3, 4, 5, 6, 7]) (r := 1) C7 dX11_init_47 (by decide) rfl rfl ?_
  refine j_gv C7 (gr_I (b := ad7 25) (av := [.ref (ad7 1)]) C7 E7 (GX3_init (k0 := 25) (pp := 1) (by decide) (by decide) (va_up_self ..) hc7 rfl rfl rfl rfl rfl rfl rfl rfl rfl (fun _ _ => rfl)) dX11_init_50 (CKX3_init (by decide)) ⟨by decide, by decide⟩ lk_RX11_21 in_X3_init rfl rfl (Nat.le_of_ble_eq_true rfl)) ?_
  rintro u ⟨ad8, rfl, hA8, hc8⟩
  have eS8 : va_up (va_up (va_up SI 0 (.inr (.inl (10, 13, rfL [(2, 15), (1, 8), (0, 1)] [3, 4, 5, 6, 7])))) 25 (.inr (.inl (2, 18, rfL [] [0, 1, 2, 3, 4, 5, 6, 7, 8, 9])))) 25 (.inr (.inl (2, 18, rfL [(9, 1), (8, 34), (7, 33), (6, 32), (5, 31), (4, 30), (3, 29), (2, 28), (1, 27), (0, 26)] []))) = va_up SI 0 (.inr (.inl (10, 13, rfL [(2, 15), (1, 8), (0, 1)] [3, 4, 5, 6, 7]))) := va_up2.trans (va_up_id rfl)
  have hc8 : clS 35 (va_up SI 0 (.inr (.inl (10, 13, rfL [(2, 15), (1, 8), (0, 1)] [3, 4, 5, 6, 7])))) := by rw [← eS8]; exact hc8
  rw [← hA8 0 (by decide), ← hA8 25 (by decide)]
  have C8 := C7.g (a := 9) (b := 296) (by decide) (by decide)
  have E8 := FE_g (a := 9) (b := 296) E7
  have N8 := FN_g (a := 9) (b := 296) N7
  refine (show FJ _ Y ad8 35 (va_up SI 0 (.inr (.inl (10, 13, rfL [(2, 15), (1, 8), (0, 1)] [3, 4, 5, 6, 7])))) h00 _ _ _ → _ from fun q => by rw [← eS8] at q; exact q) ?_
  refine j_putFr (j := 3) (r := 25) (ty := .object "ReplayBox$Machine") C8 N8 dX11_init_53 (by decide) (va_up_self ..) rfl inX11 tyX11_ok nmX11 (by decide) lfRX11_28 rfl rfl rfl (by decide +kernel) (fun _ => rfl) (fun _ => rfl) ?_
  rw [rfL_put, va_up2]
  have hc8 := hc8.set (k := 0) (rfL_cl0 (j := 3) (r := 25) (by have q := hc8 0 (by decide); rw [va_up_self] at q; exact q) (by decide))
  rw [va_up2] at hc8
  refine j_aload_n C8 dX11_init_56 rfl rfl ?_
  refine j_newS (ci := 9) (todo := [0, 1, 2, 3, 4, 5, 6, 7, 8, 9, 10]) (T := TX10) C8 dX11_init_57 rfl inX10 tyX10_ok cl_RX11_31 is_X10 iz_X10 (by decide +kernel) rfl hc8 (by decide) (by decide) (fun ad9 hA9 hc9 => ?_)
  rw [← hA9 0 (by decide)]
  have C9 := C8.g (a := 1) (b := 17) (by decide) (by decide)
  have E9 := FE_g (a := 1) (b := 17) E8
  have N9 := FN_g (a := 1) (b := 17) N8
  refine j_dup C9 dX11_init_60 rfl ?_
  refine j_gv C9 (gr_IN (host := "ReplayBox") (b := ad9 35) (av := []) C9 E9 (GX10_init (k0 := 35) (by decide) (va_up_self ..) hc9 rfl rfl rfl rfl rfl rfl rfl rfl rfl rfl rfl (fun _ _ => rfl)) dX11_init_61 (CKX10_init (by decide)) ⟨by decide, by decide⟩ (by decide +kernel) in_X10_init rfl rfl (Nat.le_of_ble_eq_true rfl)) ?_
  rintro u ⟨ad10, rfl, hA10, hc10⟩
  have eS10 : va_up (va_up (va_up SI 0 (.inr (.inl (10, 13, rfL [(3, 25), (2, 15), (1, 8), (0, 1)] [4, 5, 6, 7])))) 35 (.inr (.inl (9, 17, rfL [] [0, 1, 2, 3, 4, 5, 6, 7, 8, 9, 10])))) 35 (.inr (.inl (9, 17, rfL [(10, 46), (9, 45), (8, 44), (7, 43), (6, 42), (5, 41), (4, 40), (3, 39), (2, 38), (1, 37), (0, 36)] []))) = va_up SI 0 (.inr (.inl (10, 13, rfL [(3, 25), (2, 15), (1, 8), (0, 1)] [4, 5, 6, 7]))) := va_up2.trans (va_up_id rfl)
  have hc10 : clS 47 (va_up SI 0 (.inr (.inl (10, 13, rfL [(3, 25), (2, 15), (1, 8), (0, 1)] [4, 5, 6, 7])))) := by rw [← eS10]; exact hc10
  rw [← hA10 0 (by decide), ← hA10 35 (by decide)]
  have C10 := C9.g (a := 11) (b := 3309) (by decide) (by decide)
  have E10 := FE_g (a := 11) (b := 3309) E9
  have N10 := FN_g (a := 11) (b := 3309) N9
  refine (show FJ _ Y ad10 47 (va_up SI 0 (.inr (.inl (10, 13, rfL [(3, 25), (2, 15), (1, 8), (0, 1)] [4, 5, 6, 7])))) h00 _ _ _ → _ from fun q => by rw [← eS10] at q; exact q) ?_
  refine j_putFr (j := 4) (r := 35) (ty := .object "ReplayBox$Trace") C10 N10 dX11_init_64 (by decide) (va_up_self ..) rfl inX11 tyX11_ok nmX11 (by decide) lfRX11_34 rfl rfl rfl (by decide +kernel) (fun _ => rfl) (fun _ => rfl) ?_
  rw [rfL_put, va_up2]
  have hc10 := hc10.set (k := 0) (rfL_cl0 (j := 4) (r := 35) (by have q := hc10 0 (by decide); rw [va_up_self] at q; exact q) (by decide))
  rw [va_up2] at hc10
  refine j_aload_n C10 dX11_init_67 rfl rfl ?_
  refine j_newS (ci := 3) (todo := [1, 2, 3, 4, 0]) (T := TX4) C10 dX11_init_68 rfl inX4 tyX4_ok cl_RX11_38 is_X4 iz_X4 (by decide +kernel) rfl hc10 (by decide) (by decide) (fun ad11 hA11 hc11 => ?_)
  rw [← hA11 0 (by decide)]
  have C11 := C10.g (a := 1) (b := 7) (by decide) (by decide)
  have E11 := FE_g (a := 1) (b := 7) E10
  have N11 := FN_g (a := 1) (b := 7) N10
  refine j_dup C11 dX11_init_71 rfl ?_
  refine j_aload_n C11 dX11_init_72 rfl rfl ?_
  refine gCRX11_34 (rf := rfL [(4, 35), (3, 25), (2, 15), (1, 8), (0, 1)] [5, 6, 7]) (r := 35) C11 dX11_init_73 (by decide) rfl rfl ?_
  refine j_gv C11 (gr_I (b := ad11 47) (av := [.ref (ad11 35)]) C11 E11 (GX4_init (k0 := 47) (pp := 35) (by decide) (by decide) (va_up_self ..) hc11 rfl rfl rfl rfl (fun _ _ => rfl)) dX11_init_76 (CKX4_init (by decide)) ⟨by decide, by decide⟩ lk_RX11_40 in_X4_init rfl rfl (Nat.le_of_ble_eq_true rfl)) ?_
  rintro u ⟨ad12, rfl, hA12, hc12⟩
  have eS12 : va_up (va_up (va_up SI 0 (.inr (.inl (10, 13, rfL [(4, 35), (3, 25), (2, 15), (1, 8), (0, 1)] [5, 6, 7])))) 47 (.inr (.inl (3, 7, rfL [] [1, 2, 3, 4, 0])))) 47 (.inr (.inl (3, 7, rfL [(0, 35), (4, 51), (3, 50), (2, 49), (1, 48)] []))) = va_up SI 0 (.inr (.inl (10, 13, rfL [(4, 35), (3, 25), (2, 15), (1, 8), (0, 1)] [5, 6, 7]))) := va_up2.trans (va_up_id rfl)
  have hc12 : clS 52 (va_up SI 0 (.inr (.inl (10, 13, rfL [(4, 35), (3, 25), (2, 15), (1, 8), (0, 1)] [5, 6, 7])))) := by rw [← eS12]; exact hc12
  rw [← hA12 0 (by decide), ← hA12 47 (by decide)]
  have C12 := C11.g (a := 4) (b := 1569) (by decide) (by decide)
  have E12 := FE_g (a := 4) (b := 1569) E11
  have N12 := FN_g (a := 4) (b := 1569) N11
  refine (show FJ _ Y ad12 52 (va_up SI 0 (.inr (.inl (10, 13, rfL [(4, 35), (3, 25), (2, 15), (1, 8), (0, 1)] [5, 6, 7])))) h00 _ _ _ → _ from fun q => by rw [← eS12] at q; exact q) ?_
  refine j_putFr (j := 5) (r := 47) (ty := .object "ReplayBox$Order") C12 N12 dX11_init_79 (by decide) (va_up_self ..) rfl inX11 tyX11_ok nmX11 (by decide) lfRX11_43 rfl rfl rfl (by decide +kernel) (fun _ => rfl) (fun _ => rfl) ?_
  rw [rfL_put, va_up2]
  have hc12 := hc12.set (k := 0) (rfL_cl0 (j := 5) (r := 47) (by have q := hc12 0 (by decide); rw [va_up_self] at q; exact q) (by decide))
  rw [va_up2] at hc12
  refine j_aload_n C12 dX11_init_82 rfl rfl ?_
  refine j_newS (ci := 5) (todo := [2, 3, 4, 5, 0, 1]) (T := TX6) C12 dX11_init_83 rfl inX6 tyX6_ok cl_RX11_47 is_X6 iz_X6 (by decide +kernel) rfl hc12 (by decide) (by decide) (fun ad13 hA13 hc13 => ?_)
  rw [← hA13 0 (by decide)]
  have C13 := C12.g (a := 1) (b := 11) (by decide) (by decide)
  have E13 := FE_g (a := 1) (b := 11) E12
  have N13 := FN_g (a := 1) (b := 11) N12
  refine j_dup C13 dX11_init_86 rfl ?_
  refine j_aload_n C13 dX11_init_87 rfl rfl ?_
  refine gCRX11_12 (rf := rfL [(5, 47), (4, 35), (3, 25), (2, 15), (1, 8), (0, 1)] [6, 7]) (r := 1) C13 dX11_init_88 (by decide) rfl rfl ?_
  refine j_aload_n C13 dX11_init_91 rfl rfl ?_
  refine gCRX11_28 (rf := rfL [(5, 47), (4, 35), (3, 25), (2, 15), (1, 8), (0, 1)] [6, 7]) (r := 25) C13 dX11_init_92 (by decide) rfl rfl ?_
  refine j_gv C13 (gr_I (b := ad13 52) (av := [.ref (ad13 1), .ref (ad13 25)]) C13 E13 (GX6_init (k0 := 52) (pp := 1) (pq := 25) (by decide) (by decide) (by decide) (va_up_self ..) hc13 rfl rfl rfl rfl rfl rfl (fun _ _ => rfl)) dX11_init_95 (CKX6_init (by decide)) ⟨by decide, by decide⟩ lk_RX11_49 in_X6_init rfl rfl (Nat.le_of_ble_eq_true rfl)) ?_
  rintro u ⟨ad14, rfl, hA14, hc14⟩
  have eS14 : va_up (va_up (va_up SI 0 (.inr (.inl (10, 13, rfL [(5, 47), (4, 35), (3, 25), (2, 15), (1, 8), (0, 1)] [6, 7])))) 52 (.inr (.inl (5, 11, rfL [] [2, 3, 4, 5, 0, 1])))) 52 (.inr (.inl (5, 11, rfL [(1, 25), (0, 1), (5, 58), (4, 57), (3, 56), (2, 53)] []))) = va_up SI 0 (.inr (.inl (10, 13, rfL [(5, 47), (4, 35), (3, 25), (2, 15), (1, 8), (0, 1)] [6, 7]))) := va_up2.trans (va_up_id rfl)
  have hc14 : clS 59 (va_up SI 0 (.inr (.inl (10, 13, rfL [(5, 47), (4, 35), (3, 25), (2, 15), (1, 8), (0, 1)] [6, 7])))) := by rw [← eS14]; exact hc14
  rw [← hA14 0 (by decide), ← hA14 52 (by decide)]
  have C14 := C13.g (a := 6) (b := 608) (by decide) (by decide)
  have E14 := FE_g (a := 6) (b := 608) E13
  have N14 := FN_g (a := 6) (b := 608) N13
  refine (show FJ _ Y ad14 59 (va_up SI 0 (.inr (.inl (10, 13, rfL [(5, 47), (4, 35), (3, 25), (2, 15), (1, 8), (0, 1)] [6, 7])))) h00 _ _ _ → _ from fun q => by rw [← eS14] at q; exact q) ?_
  refine j_putFr (j := 6) (r := 52) (ty := .object "ReplayBox$Search") C14 N14 dX11_init_98 (by decide) (va_up_self ..) rfl inX11 tyX11_ok nmX11 (by decide) lfRX11_52 rfl rfl rfl (by decide +kernel) (fun _ => rfl) (fun _ => rfl) ?_
  rw [rfL_put, va_up2]
  have hc14 := hc14.set (k := 0) (rfL_cl0 (j := 6) (r := 52) (by have q := hc14 0 (by decide); rw [va_up_self] at q; exact q) (by decide))
  rw [va_up2] at hc14
  refine j_aload_n C14 dX11_init_101 rfl rfl ?_
  refine j_bipush (v := 8) C14 dX11_init_102 (by decide) ?_
  refine j_newq (N := 8) C14 E14 dX11_init_104 cl_RX11_56 (by decide) hc14 rfl rfl (by decide) (by decide) (fun ad15 hA15 => ?_)
  rw [← hA15 0 (by decide)]
  have C15 := C14.g (a := 1) (b := 8) (by decide) (by decide)
  have E15 := FE_g (a := 1) (b := 8) E14
  have N15 := FN_g (a := 1) (b := 8) N14
  have hc15 : clS 60 (va_up SI 0 (.inr (.inl (10, 13, rfL [(6, 52), (5, 47), (4, 35), (3, 25), (2, 15), (1, 8), (0, 1)] [7])))) := fun k hk => by
    by_cases e : k = 59
    · subst e
      exact fun i r q => nomatch q
    · exact (hc14 k (by omega)).mono (by decide)
  refine j_putFr (j := 7) (r := 59) (ty := .array (.object "ReplayBox$Held")) C15 N15 dX11_init_107 (by decide) (va_up_self ..) rfl inX11 tyX11_ok nmX11 (by decide) lfRX11_58 rfl rfl rfl (by decide +kernel) (fun _ => rfl) (fun _ => rfl) ?_
  rw [rfL_put, va_up2]
  have hc15 := hc15.set (k := 0) (rfL_cl0 (j := 7) (r := 59) (by have q := hc15 0 (by decide); rw [va_up_self] at q; exact q) (by decide))
  rw [va_up2] at hc15
  refine j_aload_n C15 dX11_init_110 rfl rfl ?_
  refine j_bipush (v := (-2)) C15 dX11_init_111 (by decide) ?_
  refine pCRX11_62 C15 dX11_init_113 (by decide) (va_up_self ..) rfl ?_
  have eF : va_up SI 0 (.inr (.inl (10, 13, rfL [(7, 59), (6, 52), (5, 47), (4, 35), (3, 25), (2, 15), (1, 8), (0, 1)] []))) = SI := va_up_id rfl
  simp only [xg_xg]
  rw [eF]
  exact K (60, ad15, SI, hs h00 0 12 (-2)) 59 7193 ⟨ad15, rfl, ((hA15 0 (by decide)).trans ((hA14 0 (by decide)).trans ((hA13 0 (by decide)).trans ((hA12 0 (by decide)).trans ((hA11 0 (by decide)).trans ((hA10 0 (by decide)).trans ((hA9 0 (by decide)).trans ((hA8 0 (by decide)).trans ((hA7 0 (by decide)).trans ((hA6 0 (by decide)).trans ((hA5 0 (by decide)).trans ((hA4 0 (by decide)).trans ((hA3 0 (by decide)).trans ((hA2 0 (by decide)).trans (hA1 0 (by decide))))))))))))))))⟩ (by decide) (by decide) _ _ dX11_init_116)
end INITB
end MG_42_initb
section MG_43_initm
/-! THE REFERENCE'S CONSTRUCTOR -/
def SMI (k : Nat) : ph_E := match k with
  | 0 => .inr (.inl (11, 83, rfL [(82, 49), (81, 48), (80, 47), (79, 46), (78, 45), (77, 44), (76, 43), (75, 42), (72, 41), (71, 40), (63, 39), (62, 38), (61, 37), (59, 36), (58, 35), (57, 34), (56, 33), (55, 32), (54, 31), (53, 30), (52, 29), (51, 28), (50, 27), (49, 26), (48, 25), (47, 24), (46, 23), (45, 22), (44, 21), (43, 20), (22, 19), (21, 18), (20, 17), (19, 16), (17, 15), (16, 14), (15, 13), (14, 12), (13, 11), (12, 10), (11, 9), (10, 8), (8, 7), (6, 6), (5, 5), (4, 4), (3, 3), (2, 2), (1, 1)] []))
  | 1 => .inl (0, 4)
  | 2 => .inl (0, 96)
  | 3 => .inl (0, 96)
  | 4 => .inl (0, 96)
  | 5 => .inl (0, 96)
  | 6 => .inl (0, 12)
  | 7 => .inl (0, 30)
  | 8 => .inl (0, 40)
  | 9 => .inl (0, 40)
  | 10 => .inl (0, 28)
  | 11 => .inl (0, 28)
  | 12 => .inl (0, 4)
  | 13 => .inl (1, 4)
  | 14 => .inl (0, 4)
  | 15 => .inl (0, 4)
  | 16 => .inl (0, 12)
  | 17 => .inl (0, 12)
  | 18 => .inl (0, 12)
  | 19 => .inl (0, 192)
  | 20 => .inl (0, 8428)
  | 21 => .inl (0, 8428)
  | 22 => .inl (0, 1204)
  | 23 => .inl (0, 1204)
  | 24 => .inl (0, 301)
  | 25 => .inl (0, 3612)
  | 26 => .inl (0, 3612)
  | 27 => .inl (0, 3612)
  | 28 => .inl (0, 57792)
  | 29 => .inl (0, 301)
  | 30 => .inl (0, 301)
  | 31 => .inl (0, 301)
  | 32 => .inl (0, 301)
  | 33 => .inl (0, 301)
  | 34 => .inl (0, 301)
  | 35 => .inl (0, 301)
  | 36 => .inl (0, 30)
  | 37 => .inl (0, 301)
  | 38 => .inl (0, 301)
  | 39 => .inl (1, 90601)
  | 40 => .inl (0, 2)
  | 41 => .inl (0, 2)
  | 42 => .inl (0, 2)
  | 43 => .inl (0, 2)
  | 44 => .inl (0, 8)
  | 45 => .inl (0, 8)
  | 46 => .inl (0, 8)
  | 47 => .inl (0, 8)
  | 48 => .inl (0, 480)
  | 49 => .inl (0, 60)
  | _ => .inl (0, 0)
theorem lfc_92 : Cond.constant RX12 92 57792 ∈ TW := (TWt 1118 (by decide +kernel) (by decide +kernel))
theorem lfc_126 : Cond.constant RX12 126 90601 ∈ TW := (TWt 1119 (by decide +kernel) (by decide +kernel))
section INITM
variable {l0 : Launch} {Y : fj_Y} {ad : Nat → Nat}
set_option maxRecDepth 100000 in
set_option maxHeartbeats 4000000 in
theorem tX12_init_40 {X : fj_X} (C0 : FC X Y l0 cX12_init 1 RX12 (mkR 1 49 182923 12) 0 0 none) (N : FN X "<init>") (ad0 : Nat → Nat) (e0 : ad0 0 = ad 0) (hc0 : clS 40 (va_up SMI 0 (.inr (.inl (11, 83, rfL [(63, 39), (62, 38), (61, 37), (59, 36), (58, 35), (57, 34), (56, 33), (55, 32), (54, 31), (53, 30), (52, 29), (51, 28), (50, 27), (49, 26), (48, 25), (47, 24), (46, 23), (45, 22), (44, 21), (43, 20), (22, 19), (21, 18), (20, 17), (19, 16), (17, 15), (16, 14), (15, 13), (14, 12), (13, 11), (12, 10), (11, 9), (10, 8), (8, 7), (6, 6), (5, 5), (4, 4), (3, 3), (2, 2), (1, 1)] [71, 72, 75, 76, 77, 78, 79, 80, 81, 82]))))) (K : ∀ u a b, (∃ ad', u = (50, ad', SMI, hs h00 0 66 (-2)) ∧ ad' 0 = ad 0) → a ≤ 49 → b ≤ 182923 → ∀ pc lv, decode cX12_init pc = .ok (.return_, 1) → FJ (xg X a b) Y u.2.1 u.1 u.2.2.1 u.2.2.2 pc lv []) : FJ (xg X 39 182343) Y ad0 40 (va_up SMI 0 (.inr (.inl (11, 83, rfL [(63, 39), (62, 38), (61, 37), (59, 36), (58, 35), (57, 34), (56, 33), (55, 32), (54, 31), (53, 30), (52, 29), (51, 28), (50, 27), (49, 26), (48, 25), (47, 24), (46, 23), (45, 22), (44, 21), (43, 20), (22, 19), (21, 18), (20, 17), (19, 16), (17, 15), (16, 14), (15, 13), (14, 12), (13, 11), (12, 10), (11, 9), (10, 8), (8, 7), (6, 6), (5, 5), (4, 4), (3, 3), (2, 2), (1, 1)] [71, 72, 75, 76, 77, 78, 79, 80, 81, 82])))) (hs h00 0 66 (-2)) 335 [(0, .ref (ad0 0))] [] := by
  have C1 := C0.g (a := 39) (b := 182343) (by decide) (by decide)
  refine j_aload_n C1 dX12_init_335 rfl rfl ?_
  refine j_iconst (v := 2) C1 dX12_init_336 (by decide) ?_
  refine j_nap (k0 := 0) (j := 71) (t := 0) (N := 2) (fty := .array .int) C1 N dX12_init_337 dX12_init_339 (by decide) (va_up_self ..) rfl rfl hc0 rfl ar_int (fun _ => rfl) raI (by decide +kernel) (by decide +kernel) (by decide) (by decide) rfl inM tyX12_ok nmX12 (by decide) lf_134 rfl rfl rfl (by decide +kernel) (fun _ => rfl) (fun _ => rfl) (fun ad1 hA1 hc1 => ?_)
  rw [va_up2] at hc1 ⊢
  rw [← hA1 0 (by decide)]
  have e1 := (hA1 0 (by decide)).trans e0
  have C2 := C1.g (a := 1) (b := 2) (by decide) (by decide)
  refine j_aload_n C2 dX12_init_342 rfl rfl ?_
  refine j_iconst (v := 2) C2 dX12_init_343 (by decide) ?_
  refine j_nap (k0 := 0) (j := 72) (t := 0) (N := 2) (fty := .array .int) C2 N dX12_init_344 dX12_init_346 (by decide) (va_up_self ..) rfl rfl hc1 rfl ar_int (fun _ => rfl) raI (by decide +kernel) (by decide +kernel) (by decide) (by decide) rfl inM tyX12_ok nmX12 (by decide) lf_137 rfl rfl rfl (by decide +kernel) (fun _ => rfl) (fun _ => rfl) (fun ad2 hA2 hc2 => ?_)
  rw [va_up2] at hc2 ⊢
  rw [← hA2 0 (by decide)]
  have e2 := (hA2 0 (by decide)).trans e1
  have C3 := C2.g (a := 1) (b := 2) (by decide) (by decide)
  refine j_aload_n C3 dX12_init_349 rfl rfl ?_
  refine j_iconst (v := 2) C3 dX12_init_350 (by decide) ?_
  refine j_nap (k0 := 0) (j := 75) (t := 0) (N := 2) (fty := .array .int) C3 N dX12_init_351 dX12_init_353 (by decide) (va_up_self ..) rfl rfl hc2 rfl ar_int (fun _ => rfl) raI (by decide +kernel) (by decide +kernel) (by decide) (by decide) rfl inM tyX12_ok nmX12 (by decide) lf_140 rfl rfl rfl (by decide +kernel) (fun _ => rfl) (fun _ => rfl) (fun ad3 hA3 hc3 => ?_)
  rw [va_up2] at hc3 ⊢
  rw [← hA3 0 (by decide)]
  have e3 := (hA3 0 (by decide)).trans e2
  have C4 := C3.g (a := 1) (b := 2) (by decide) (by decide)
  refine j_aload_n C4 dX12_init_356 rfl rfl ?_
  refine j_iconst (v := 2) C4 dX12_init_357 (by decide) ?_
  refine j_nap (k0 := 0) (j := 76) (t := 0) (N := 2) (fty := .array .int) C4 N dX12_init_358 dX12_init_360 (by decide) (va_up_self ..) rfl rfl hc3 rfl ar_int (fun _ => rfl) raI (by decide +kernel) (by decide +kernel) (by decide) (by decide) rfl inM tyX12_ok nmX12 (by decide) lf_143 rfl rfl rfl (by decide +kernel) (fun _ => rfl) (fun _ => rfl) (fun ad4 hA4 hc4 => ?_)
  rw [va_up2] at hc4 ⊢
  rw [← hA4 0 (by decide)]
  have e4 := (hA4 0 (by decide)).trans e3
  have C5 := C4.g (a := 1) (b := 2) (by decide) (by decide)
  refine j_aload_n C5 dX12_init_363 rfl rfl ?_
  refine j_bipush (v := 8) C5 dX12_init_364 (by decide) ?_
  refine j_nap (k0 := 0) (j := 77) (t := 0) (N := 8) (fty := .array .int) C5 N dX12_init_366 dX12_init_368 (by decide) (va_up_self ..) rfl rfl hc4 rfl ar_int (fun _ => rfl) raI (by decide +kernel) (by decide +kernel) (by decide) (by decide) rfl inM tyX12_ok nmX12 (by decide) lf_146 rfl rfl rfl (by decide +kernel) (fun _ => rfl) (fun _ => rfl) (fun ad5 hA5 hc5 => ?_)
  rw [va_up2] at hc5 ⊢
  rw [← hA5 0 (by decide)]
  have e5 := (hA5 0 (by decide)).trans e4
  have C6 := C5.g (a := 1) (b := 8) (by decide) (by decide)
  refine j_aload_n C6 dX12_init_371 rfl rfl ?_
  refine j_bipush (v := 8) C6 dX12_init_372 (by decide) ?_
  refine j_nap (k0 := 0) (j := 78) (t := 0) (N := 8) (fty := .array .int) C6 N dX12_init_374 dX12_init_376 (by decide) (va_up_self ..) rfl rfl hc5 rfl ar_int (fun _ => rfl) raI (by decide +kernel) (by decide +kernel) (by decide) (by decide) rfl inM tyX12_ok nmX12 (by decide) lf_149 rfl rfl rfl (by decide +kernel) (fun _ => rfl) (fun _ => rfl) (fun ad6 hA6 hc6 => ?_)
  rw [va_up2] at hc6 ⊢
  rw [← hA6 0 (by decide)]
  have e6 := (hA6 0 (by decide)).trans e5
  have C7 := C6.g (a := 1) (b := 8) (by decide) (by decide)
  refine j_aload_n C7 dX12_init_379 rfl rfl ?_
  refine j_bipush (v := 8) C7 dX12_init_380 (by decide) ?_
  refine j_nap (k0 := 0) (j := 79) (t := 0) (N := 8) (fty := .array .int) C7 N dX12_init_382 dX12_init_384 (by decide) (va_up_self ..) rfl rfl hc6 rfl ar_int (fun _ => rfl) raI (by decide +kernel) (by decide +kernel) (by decide) (by decide) rfl inM tyX12_ok nmX12 (by decide) lf_152 rfl rfl rfl (by decide +kernel) (fun _ => rfl) (fun _ => rfl) (fun ad7 hA7 hc7 => ?_)
  rw [va_up2] at hc7 ⊢
  rw [← hA7 0 (by decide)]
  have e7 := (hA7 0 (by decide)).trans e6
  have C8 := C7.g (a := 1) (b := 8) (by decide) (by decide)
  refine j_aload_n C8 dX12_init_387 rfl rfl ?_
  refine j_bipush (v := 8) C8 dX12_init_388 (by decide) ?_
  refine j_nap (k0 := 0) (j := 80) (t := 0) (N := 8) (fty := .array .int) C8 N dX12_init_390 dX12_init_392 (by decide) (va_up_self ..) rfl rfl hc7 rfl ar_int (fun _ => rfl) raI (by decide +kernel) (by decide +kernel) (by decide) (by decide) rfl inM tyX12_ok nmX12 (by decide) lf_155 rfl rfl rfl (by decide +kernel) (fun _ => rfl) (fun _ => rfl) (fun ad8 hA8 hc8 => ?_)
  rw [va_up2] at hc8 ⊢
  rw [← hA8 0 (by decide)]
  have e8 := (hA8 0 (by decide)).trans e7
  have C9 := C8.g (a := 1) (b := 8) (by decide) (by decide)
  refine j_aload_n C9 dX12_init_395 rfl rfl ?_
  refine j_sipush (v := 480) C9 dX12_init_396 (by decide) ?_
  refine j_nap (k0 := 0) (j := 81) (t := 0) (N := 480) (fty := .array .int) C9 N dX12_init_399 dX12_init_401 (by decide) (va_up_self ..) rfl rfl hc8 rfl ar_int (fun _ => rfl) raI (by decide +kernel) (by decide +kernel) (by decide) (by decide) rfl inM tyX12_ok nmX12 (by decide) lf_158 rfl rfl rfl (by decide +kernel) (fun _ => rfl) (fun _ => rfl) (fun ad9 hA9 hc9 => ?_)
  rw [va_up2] at hc9 ⊢
  rw [← hA9 0 (by decide)]
  have e9 := (hA9 0 (by decide)).trans e8
  have C10 := C9.g (a := 1) (b := 480) (by decide) (by decide)
  refine j_aload_n C10 dX12_init_404 rfl rfl ?_
  refine j_bipush (v := 60) C10 dX12_init_405 (by decide) ?_
  refine j_nap (k0 := 0) (j := 82) (t := 0) (N := 60) (fty := .array .int) C10 N dX12_init_407 dX12_init_409 (by decide) (va_up_self ..) rfl rfl hc9 rfl ar_int (fun _ => rfl) raI (by decide +kernel) (by decide +kernel) (by decide) (by decide) rfl inM tyX12_ok nmX12 (by decide) lf_161 rfl rfl rfl (by decide +kernel) (fun _ => rfl) (fun _ => rfl) (fun ad10 hA10 hc10 => ?_)
  rw [va_up2] at hc10 ⊢
  rw [← hA10 0 (by decide)]
  have e10 := (hA10 0 (by decide)).trans e9
  have C11 := C10.g (a := 1) (b := 60) (by decide) (by decide)
  simp only [xg_xg]
  have eF : va_up SMI 0 (.inr (.inl (11, 83, rfL [(82, 49), (81, 48), (80, 47), (79, 46), (78, 45), (77, 44), (76, 43), (75, 42), (72, 41), (71, 40), (63, 39), (62, 38), (61, 37), (59, 36), (58, 35), (57, 34), (56, 33), (55, 32), (54, 31), (53, 30), (52, 29), (51, 28), (50, 27), (49, 26), (48, 25), (47, 24), (46, 23), (45, 22), (44, 21), (43, 20), (22, 19), (21, 18), (20, 17), (19, 16), (17, 15), (16, 14), (15, 13), (14, 12), (13, 11), (12, 10), (11, 9), (10, 8), (8, 7), (6, 6), (5, 5), (4, 4), (3, 3), (2, 2), (1, 1)] []))) = SMI := va_up_id rfl
  rw [eF]
  exact K (50, ad10, SMI, hs h00 0 66 (-2)) 49 182923 ⟨ad10, rfl, e10⟩ (by decide) (by decide) _ _ dX12_init_412
set_option maxRecDepth 100000 in
set_option maxHeartbeats 4000000 in
theorem tX12_init_30 {X : fj_X} (C0 : FC X Y l0 cX12_init 1 RX12 (mkR 1 49 182923 12) 0 0 none) (N : FN X "<init>") (ad0 : Nat → Nat) (e0 : ad0 0 = ad 0) (hc0 : clS 31 (va_up SMI 0 (.inr (.inl (11, 83, rfL [(53, 30), (52, 29), (51, 28), (50, 27), (49, 26), (48, 25), (47, 24), (46, 23), (45, 22), (44, 21), (43, 20), (22, 19), (21, 18), (20, 17), (19, 16), (17, 15), (16, 14), (15, 13), (14, 12), (13, 11), (12, 10), (11, 9), (10, 8), (8, 7), (6, 6), (5, 5), (4, 4), (3, 3), (2, 2), (1, 1)] [54, 55, 56, 57, 58, 59, 61, 62, 63, 71, 72, 75, 76, 77, 78, 79, 80, 81, 82]))))) (K : ∀ u a b, (∃ ad', u = (50, ad', SMI, hs h00 0 66 (-2)) ∧ ad' 0 = ad 0) → a ≤ 49 → b ≤ 182923 → ∀ pc lv, decode cX12_init pc = .ok (.return_, 1) → FJ (xg X a b) Y u.2.1 u.1 u.2.2.1 u.2.2.2 pc lv []) : FJ (xg X 30 89605) Y ad0 31 (va_up SMI 0 (.inr (.inl (11, 83, rfL [(53, 30), (52, 29), (51, 28), (50, 27), (49, 26), (48, 25), (47, 24), (46, 23), (45, 22), (44, 21), (43, 20), (22, 19), (21, 18), (20, 17), (19, 16), (17, 15), (16, 14), (15, 13), (14, 12), (13, 11), (12, 10), (11, 9), (10, 8), (8, 7), (6, 6), (5, 5), (4, 4), (3, 3), (2, 2), (1, 1)] [54, 55, 56, 57, 58, 59, 61, 62, 63, 71, 72, 75, 76, 77, 78, 79, 80, 81, 82])))) (h00) 250 [(0, .ref (ad0 0))] [] := by
  have C1 := C0.g (a := 30) (b := 89605) (by decide) (by decide)
  refine j_aload_n C1 dX12_init_250 rfl rfl ?_
  refine j_sipush (v := 301) C1 dX12_init_251 (by decide) ?_
  refine j_nap (k0 := 0) (j := 54) (t := 0) (N := 301) (fty := .array .int) C1 N dX12_init_254 dX12_init_256 (by decide) (va_up_self ..) rfl rfl hc0 rfl ar_int (fun _ => rfl) raI (by decide +kernel) (by decide +kernel) (by decide) (by decide) rfl inM tyX12_ok nmX12 (by decide) lf_102 rfl rfl rfl (by decide +kernel) (fun _ => rfl) (fun _ => rfl) (fun ad1 hA1 hc1 => ?_)
  rw [va_up2] at hc1 ⊢
  rw [← hA1 0 (by decide)]
  have e1 := (hA1 0 (by decide)).trans e0
  have C2 := C1.g (a := 1) (b := 301) (by decide) (by decide)
  refine j_aload_n C2 dX12_init_259 rfl rfl ?_
  refine j_sipush (v := 301) C2 dX12_init_260 (by decide) ?_
  refine j_nap (k0 := 0) (j := 55) (t := 0) (N := 301) (fty := .array .int) C2 N dX12_init_263 dX12_init_265 (by decide) (va_up_self ..) rfl rfl hc1 rfl ar_int (fun _ => rfl) raI (by decide +kernel) (by decide +kernel) (by decide) (by decide) rfl inM tyX12_ok nmX12 (by decide) lf_105 rfl rfl rfl (by decide +kernel) (fun _ => rfl) (fun _ => rfl) (fun ad2 hA2 hc2 => ?_)
  rw [va_up2] at hc2 ⊢
  rw [← hA2 0 (by decide)]
  have e2 := (hA2 0 (by decide)).trans e1
  have C3 := C2.g (a := 1) (b := 301) (by decide) (by decide)
  refine j_aload_n C3 dX12_init_268 rfl rfl ?_
  refine j_sipush (v := 301) C3 dX12_init_269 (by decide) ?_
  refine j_nap (k0 := 0) (j := 56) (t := 0) (N := 301) (fty := .array .int) C3 N dX12_init_272 dX12_init_274 (by decide) (va_up_self ..) rfl rfl hc2 rfl ar_int (fun _ => rfl) raI (by decide +kernel) (by decide +kernel) (by decide) (by decide) rfl inM tyX12_ok nmX12 (by decide) lf_108 rfl rfl rfl (by decide +kernel) (fun _ => rfl) (fun _ => rfl) (fun ad3 hA3 hc3 => ?_)
  rw [va_up2] at hc3 ⊢
  rw [← hA3 0 (by decide)]
  have e3 := (hA3 0 (by decide)).trans e2
  have C4 := C3.g (a := 1) (b := 301) (by decide) (by decide)
  refine j_aload_n C4 dX12_init_277 rfl rfl ?_
  refine j_sipush (v := 301) C4 dX12_init_278 (by decide) ?_
  refine j_nap (k0 := 0) (j := 57) (t := 0) (N := 301) (fty := .array .int) C4 N dX12_init_281 dX12_init_283 (by decide) (va_up_self ..) rfl rfl hc3 rfl ar_int (fun _ => rfl) raI (by decide +kernel) (by decide +kernel) (by decide) (by decide) rfl inM tyX12_ok nmX12 (by decide) lf_111 rfl rfl rfl (by decide +kernel) (fun _ => rfl) (fun _ => rfl) (fun ad4 hA4 hc4 => ?_)
  rw [va_up2] at hc4 ⊢
  rw [← hA4 0 (by decide)]
  have e4 := (hA4 0 (by decide)).trans e3
  have C5 := C4.g (a := 1) (b := 301) (by decide) (by decide)
  refine j_aload_n C5 dX12_init_286 rfl rfl ?_
  refine j_sipush (v := 301) C5 dX12_init_287 (by decide) ?_
  refine j_nap (k0 := 0) (j := 58) (t := 0) (N := 301) (fty := .array .int) C5 N dX12_init_290 dX12_init_292 (by decide) (va_up_self ..) rfl rfl hc4 rfl ar_int (fun _ => rfl) raI (by decide +kernel) (by decide +kernel) (by decide) (by decide) rfl inM tyX12_ok nmX12 (by decide) lf_114 rfl rfl rfl (by decide +kernel) (fun _ => rfl) (fun _ => rfl) (fun ad5 hA5 hc5 => ?_)
  rw [va_up2] at hc5 ⊢
  rw [← hA5 0 (by decide)]
  have e5 := (hA5 0 (by decide)).trans e4
  have C6 := C5.g (a := 1) (b := 301) (by decide) (by decide)
  refine j_aload_n C6 dX12_init_295 rfl rfl ?_
  refine j_bipush (v := 30) C6 dX12_init_296 (by decide) ?_
  refine j_nap (k0 := 0) (j := 59) (t := 0) (N := 30) (fty := .array .int) C6 N dX12_init_298 dX12_init_300 (by decide) (va_up_self ..) rfl rfl hc5 rfl ar_int (fun _ => rfl) raI (by decide +kernel) (by decide +kernel) (by decide) (by decide) rfl inM tyX12_ok nmX12 (by decide) lf_117 rfl rfl rfl (by decide +kernel) (fun _ => rfl) (fun _ => rfl) (fun ad6 hA6 hc6 => ?_)
  rw [va_up2] at hc6 ⊢
  rw [← hA6 0 (by decide)]
  have e6 := (hA6 0 (by decide)).trans e5
  have C7 := C6.g (a := 1) (b := 30) (by decide) (by decide)
  refine j_aload_n C7 dX12_init_303 rfl rfl ?_
  refine j_sipush (v := 301) C7 dX12_init_304 (by decide) ?_
  refine j_nap (k0 := 0) (j := 61) (t := 0) (N := 301) (fty := .array .int) C7 N dX12_init_307 dX12_init_309 (by decide) (va_up_self ..) rfl rfl hc6 rfl ar_int (fun _ => rfl) raI (by decide +kernel) (by decide +kernel) (by decide) (by decide) rfl inM tyX12_ok nmX12 (by decide) lf_120 rfl rfl rfl (by decide +kernel) (fun _ => rfl) (fun _ => rfl) (fun ad7 hA7 hc7 => ?_)
  rw [va_up2] at hc7 ⊢
  rw [← hA7 0 (by decide)]
  have e7 := (hA7 0 (by decide)).trans e6
  have C8 := C7.g (a := 1) (b := 301) (by decide) (by decide)
  refine j_aload_n C8 dX12_init_312 rfl rfl ?_
  refine j_sipush (v := 301) C8 dX12_init_313 (by decide) ?_
  refine j_nap (k0 := 0) (j := 62) (t := 0) (N := 301) (fty := .array .int) C8 N dX12_init_316 dX12_init_318 (by decide) (va_up_self ..) rfl rfl hc7 rfl ar_int (fun _ => rfl) raI (by decide +kernel) (by decide +kernel) (by decide) (by decide) rfl inM tyX12_ok nmX12 (by decide) lf_123 rfl rfl rfl (by decide +kernel) (fun _ => rfl) (fun _ => rfl) (fun ad8 hA8 hc8 => ?_)
  rw [va_up2] at hc8 ⊢
  rw [← hA8 0 (by decide)]
  have e8 := (hA8 0 (by decide)).trans e7
  have C9 := C8.g (a := 1) (b := 301) (by decide) (by decide)
  refine j_aload_n C9 dX12_init_321 rfl rfl ?_
  refine j_ldc C9 dX12_init_322 lfc_126 ?_
  refine j_nap (k0 := 0) (j := 63) (t := 1) (N := 90601) (fty := .array .boolean) C9 N dX12_init_324 dX12_init_326 (by decide) (va_up_self ..) rfl rfl hc8 rfl ar_boolean (fun _ => rfl) raZ (by decide +kernel) (by decide +kernel) (by decide) (by decide) rfl inM tyX12_ok nmX12 (by decide) lf_127 rfl rfl rfl (by decide +kernel) (fun _ => rfl) (fun _ => rfl) (fun ad9 hA9 hc9 => ?_)
  rw [va_up2] at hc9 ⊢
  rw [← hA9 0 (by decide)]
  have e9 := (hA9 0 (by decide)).trans e8
  have C10 := C9.g (a := 1) (b := 90601) (by decide) (by decide)
  refine j_aload_n C10 dX12_init_329 rfl rfl ?_
  refine j_bipush (v := (-2)) C10 dX12_init_330 (by decide) ?_
  refine j_put (ty := .int) (j := 66) C10 dX12_init_332 (by decide) (va_up_self ..) rfl inM tyX12_ok nmX12 (by decide) lf_130 rfl rfl rfl (by decide +kernel) rfl rfl ?_
  simp only [xg_xg]
  exact tX12_init_40 C0 N ad9 e9 hc9 K
set_option maxRecDepth 100000 in
set_option maxHeartbeats 4000000 in
theorem tX12_init_20 {X : fj_X} (C0 : FC X Y l0 cX12_init 1 RX12 (mkR 1 49 182923 12) 0 0 none) (N : FN X "<init>") (ad0 : Nat → Nat) (e0 : ad0 0 = ad 0) (hc0 : clS 21 (va_up SMI 0 (.inr (.inl (11, 83, rfL [(43, 20), (22, 19), (21, 18), (20, 17), (19, 16), (17, 15), (16, 14), (15, 13), (14, 12), (13, 11), (12, 10), (11, 9), (10, 8), (8, 7), (6, 6), (5, 5), (4, 4), (3, 3), (2, 2), (1, 1)] [44, 45, 46, 47, 48, 49, 50, 51, 52, 53, 54, 55, 56, 57, 58, 59, 61, 62, 63, 71, 72, 75, 76, 77, 78, 79, 80, 81, 82]))))) (K : ∀ u a b, (∃ ad', u = (50, ad', SMI, hs h00 0 66 (-2)) ∧ ad' 0 = ad 0) → a ≤ 49 → b ≤ 182923 → ∀ pc lv, decode cX12_init pc = .ok (.return_, 1) → FJ (xg X a b) Y u.2.1 u.1 u.2.2.1 u.2.2.2 pc lv []) : FJ (xg X 20 9238) Y ad0 21 (va_up SMI 0 (.inr (.inl (11, 83, rfL [(43, 20), (22, 19), (21, 18), (20, 17), (19, 16), (17, 15), (16, 14), (15, 13), (14, 12), (13, 11), (12, 10), (11, 9), (10, 8), (8, 7), (6, 6), (5, 5), (4, 4), (3, 3), (2, 2), (1, 1)] [44, 45, 46, 47, 48, 49, 50, 51, 52, 53, 54, 55, 56, 57, 58, 59, 61, 62, 63, 71, 72, 75, 76, 77, 78, 79, 80, 81, 82])))) (h00) 161 [(0, .ref (ad0 0))] [] := by
  have C1 := C0.g (a := 20) (b := 9238) (by decide) (by decide)
  refine j_aload_n C1 dX12_init_161 rfl rfl ?_
  refine j_sipush (v := 8428) C1 dX12_init_162 (by decide) ?_
  refine j_nap (k0 := 0) (j := 44) (t := 0) (N := 8428) (fty := .array .int) C1 N dX12_init_165 dX12_init_167 (by decide) (va_up_self ..) rfl rfl hc0 rfl ar_int (fun _ => rfl) raI (by decide +kernel) (by decide +kernel) (by decide) (by decide) rfl inM tyX12_ok nmX12 (by decide) lf_71 rfl rfl rfl (by decide +kernel) (fun _ => rfl) (fun _ => rfl) (fun ad1 hA1 hc1 => ?_)
  rw [va_up2] at hc1 ⊢
  rw [← hA1 0 (by decide)]
  have e1 := (hA1 0 (by decide)).trans e0
  have C2 := C1.g (a := 1) (b := 8428) (by decide) (by decide)
  refine j_aload_n C2 dX12_init_170 rfl rfl ?_
  refine j_sipush (v := 1204) C2 dX12_init_171 (by decide) ?_
  refine j_nap (k0 := 0) (j := 45) (t := 0) (N := 1204) (fty := .array .int) C2 N dX12_init_174 dX12_init_176 (by decide) (va_up_self ..) rfl rfl hc1 rfl ar_int (fun _ => rfl) raI (by decide +kernel) (by decide +kernel) (by decide) (by decide) rfl inM tyX12_ok nmX12 (by decide) lf_74 rfl rfl rfl (by decide +kernel) (fun _ => rfl) (fun _ => rfl) (fun ad2 hA2 hc2 => ?_)
  rw [va_up2] at hc2 ⊢
  rw [← hA2 0 (by decide)]
  have e2 := (hA2 0 (by decide)).trans e1
  have C3 := C2.g (a := 1) (b := 1204) (by decide) (by decide)
  refine j_aload_n C3 dX12_init_179 rfl rfl ?_
  refine j_sipush (v := 1204) C3 dX12_init_180 (by decide) ?_
  refine j_nap (k0 := 0) (j := 46) (t := 0) (N := 1204) (fty := .array .int) C3 N dX12_init_183 dX12_init_185 (by decide) (va_up_self ..) rfl rfl hc2 rfl ar_int (fun _ => rfl) raI (by decide +kernel) (by decide +kernel) (by decide) (by decide) rfl inM tyX12_ok nmX12 (by decide) lf_77 rfl rfl rfl (by decide +kernel) (fun _ => rfl) (fun _ => rfl) (fun ad3 hA3 hc3 => ?_)
  rw [va_up2] at hc3 ⊢
  rw [← hA3 0 (by decide)]
  have e3 := (hA3 0 (by decide)).trans e2
  have C4 := C3.g (a := 1) (b := 1204) (by decide) (by decide)
  refine j_aload_n C4 dX12_init_188 rfl rfl ?_
  refine j_sipush (v := 301) C4 dX12_init_189 (by decide) ?_
  refine j_nap (k0 := 0) (j := 47) (t := 0) (N := 301) (fty := .array .int) C4 N dX12_init_192 dX12_init_194 (by decide) (va_up_self ..) rfl rfl hc3 rfl ar_int (fun _ => rfl) raI (by decide +kernel) (by decide +kernel) (by decide) (by decide) rfl inM tyX12_ok nmX12 (by decide) lf_80 rfl rfl rfl (by decide +kernel) (fun _ => rfl) (fun _ => rfl) (fun ad4 hA4 hc4 => ?_)
  rw [va_up2] at hc4 ⊢
  rw [← hA4 0 (by decide)]
  have e4 := (hA4 0 (by decide)).trans e3
  have C5 := C4.g (a := 1) (b := 301) (by decide) (by decide)
  refine j_aload_n C5 dX12_init_197 rfl rfl ?_
  refine j_sipush (v := 3612) C5 dX12_init_198 (by decide) ?_
  refine j_nap (k0 := 0) (j := 48) (t := 0) (N := 3612) (fty := .array .int) C5 N dX12_init_201 dX12_init_203 (by decide) (va_up_self ..) rfl rfl hc4 rfl ar_int (fun _ => rfl) raI (by decide +kernel) (by decide +kernel) (by decide) (by decide) rfl inM tyX12_ok nmX12 (by decide) lf_83 rfl rfl rfl (by decide +kernel) (fun _ => rfl) (fun _ => rfl) (fun ad5 hA5 hc5 => ?_)
  rw [va_up2] at hc5 ⊢
  rw [← hA5 0 (by decide)]
  have e5 := (hA5 0 (by decide)).trans e4
  have C6 := C5.g (a := 1) (b := 3612) (by decide) (by decide)
  refine j_aload_n C6 dX12_init_206 rfl rfl ?_
  refine j_sipush (v := 3612) C6 dX12_init_207 (by decide) ?_
  refine j_nap (k0 := 0) (j := 49) (t := 0) (N := 3612) (fty := .array .int) C6 N dX12_init_210 dX12_init_212 (by decide) (va_up_self ..) rfl rfl hc5 rfl ar_int (fun _ => rfl) raI (by decide +kernel) (by decide +kernel) (by decide) (by decide) rfl inM tyX12_ok nmX12 (by decide) lf_86 rfl rfl rfl (by decide +kernel) (fun _ => rfl) (fun _ => rfl) (fun ad6 hA6 hc6 => ?_)
  rw [va_up2] at hc6 ⊢
  rw [← hA6 0 (by decide)]
  have e6 := (hA6 0 (by decide)).trans e5
  have C7 := C6.g (a := 1) (b := 3612) (by decide) (by decide)
  refine j_aload_n C7 dX12_init_215 rfl rfl ?_
  refine j_sipush (v := 3612) C7 dX12_init_216 (by decide) ?_
  refine j_nap (k0 := 0) (j := 50) (t := 0) (N := 3612) (fty := .array .int) C7 N dX12_init_219 dX12_init_221 (by decide) (va_up_self ..) rfl rfl hc6 rfl ar_int (fun _ => rfl) raI (by decide +kernel) (by decide +kernel) (by decide) (by decide) rfl inM tyX12_ok nmX12 (by decide) lf_89 rfl rfl rfl (by decide +kernel) (fun _ => rfl) (fun _ => rfl) (fun ad7 hA7 hc7 => ?_)
  rw [va_up2] at hc7 ⊢
  rw [← hA7 0 (by decide)]
  have e7 := (hA7 0 (by decide)).trans e6
  have C8 := C7.g (a := 1) (b := 3612) (by decide) (by decide)
  refine j_aload_n C8 dX12_init_224 rfl rfl ?_
  refine j_ldc C8 dX12_init_225 lfc_92 ?_
  refine j_nap (k0 := 0) (j := 51) (t := 0) (N := 57792) (fty := .array .int) C8 N dX12_init_227 dX12_init_229 (by decide) (va_up_self ..) rfl rfl hc7 rfl ar_int (fun _ => rfl) raI (by decide +kernel) (by decide +kernel) (by decide) (by decide) rfl inM tyX12_ok nmX12 (by decide) lf_93 rfl rfl rfl (by decide +kernel) (fun _ => rfl) (fun _ => rfl) (fun ad8 hA8 hc8 => ?_)
  rw [va_up2] at hc8 ⊢
  rw [← hA8 0 (by decide)]
  have e8 := (hA8 0 (by decide)).trans e7
  have C9 := C8.g (a := 1) (b := 57792) (by decide) (by decide)
  refine j_aload_n C9 dX12_init_232 rfl rfl ?_
  refine j_sipush (v := 301) C9 dX12_init_233 (by decide) ?_
  refine j_nap (k0 := 0) (j := 52) (t := 0) (N := 301) (fty := .array .int) C9 N dX12_init_236 dX12_init_238 (by decide) (va_up_self ..) rfl rfl hc8 rfl ar_int (fun _ => rfl) raI (by decide +kernel) (by decide +kernel) (by decide) (by decide) rfl inM tyX12_ok nmX12 (by decide) lf_96 rfl rfl rfl (by decide +kernel) (fun _ => rfl) (fun _ => rfl) (fun ad9 hA9 hc9 => ?_)
  rw [va_up2] at hc9 ⊢
  rw [← hA9 0 (by decide)]
  have e9 := (hA9 0 (by decide)).trans e8
  have C10 := C9.g (a := 1) (b := 301) (by decide) (by decide)
  refine j_aload_n C10 dX12_init_241 rfl rfl ?_
  refine j_sipush (v := 301) C10 dX12_init_242 (by decide) ?_
  refine j_nap (k0 := 0) (j := 53) (t := 0) (N := 301) (fty := .array .int) C10 N dX12_init_245 dX12_init_247 (by decide) (va_up_self ..) rfl rfl hc9 rfl ar_int (fun _ => rfl) raI (by decide +kernel) (by decide +kernel) (by decide) (by decide) rfl inM tyX12_ok nmX12 (by decide) lf_99 rfl rfl rfl (by decide +kernel) (fun _ => rfl) (fun _ => rfl) (fun ad10 hA10 hc10 => ?_)
  rw [va_up2] at hc10 ⊢
  rw [← hA10 0 (by decide)]
  have e10 := (hA10 0 (by decide)).trans e9
  have C11 := C10.g (a := 1) (b := 301) (by decide) (by decide)
  simp only [xg_xg]
  exact tX12_init_30 C0 N ad10 e10 hc10 K
set_option maxRecDepth 100000 in
set_option maxHeartbeats 4000000 in
theorem tX12_init_10 {X : fj_X} (C0 : FC X Y l0 cX12_init 1 RX12 (mkR 1 49 182923 12) 0 0 none) (N : FN X "<init>") (ad0 : Nat → Nat) (e0 : ad0 0 = ad 0) (hc0 : clS 11 (va_up SMI 0 (.inr (.inl (11, 83, rfL [(12, 10), (11, 9), (10, 8), (8, 7), (6, 6), (5, 5), (4, 4), (3, 3), (2, 2), (1, 1)] [13, 14, 15, 16, 17, 19, 20, 21, 22, 43, 44, 45, 46, 47, 48, 49, 50, 51, 52, 53, 54, 55, 56, 57, 58, 59, 61, 62, 63, 71, 72, 75, 76, 77, 78, 79, 80, 81, 82]))))) (K : ∀ u a b, (∃ ad', u = (50, ad', SMI, hs h00 0 66 (-2)) ∧ ad' 0 = ad 0) → a ≤ 49 → b ≤ 182923 → ∀ pc lv, decode cX12_init pc = .ok (.return_, 1) → FJ (xg X a b) Y u.2.1 u.1 u.2.2.1 u.2.2.2 pc lv []) : FJ (xg X 10 538) Y ad0 11 (va_up SMI 0 (.inr (.inl (11, 83, rfL [(12, 10), (11, 9), (10, 8), (8, 7), (6, 6), (5, 5), (4, 4), (3, 3), (2, 2), (1, 1)] [13, 14, 15, 16, 17, 19, 20, 21, 22, 43, 44, 45, 46, 47, 48, 49, 50, 51, 52, 53, 54, 55, 56, 57, 58, 59, 61, 62, 63, 71, 72, 75, 76, 77, 78, 79, 80, 81, 82])))) (h00) 83 [(0, .ref (ad0 0))] [] := by
  have C1 := C0.g (a := 10) (b := 538) (by decide) (by decide)
  refine j_aload_n C1 dX12_init_83 rfl rfl ?_
  refine j_bipush (v := 28) C1 dX12_init_84 (by decide) ?_
  refine j_nap (k0 := 0) (j := 13) (t := 0) (N := 28) (fty := .array .int) C1 N dX12_init_86 dX12_init_88 (by decide) (va_up_self ..) rfl rfl hc0 rfl ar_int (fun _ => rfl) raI (by decide +kernel) (by decide +kernel) (by decide) (by decide) rfl inM tyX12_ok nmX12 (by decide) lf_40 rfl rfl rfl (by decide +kernel) (fun _ => rfl) (fun _ => rfl) (fun ad1 hA1 hc1 => ?_)
  rw [va_up2] at hc1 ⊢
  rw [← hA1 0 (by decide)]
  have e1 := (hA1 0 (by decide)).trans e0
  have C2 := C1.g (a := 1) (b := 28) (by decide) (by decide)
  refine j_aload_n C2 dX12_init_91 rfl rfl ?_
  refine j_iconst (v := 4) C2 dX12_init_92 (by decide) ?_
  refine j_nap (k0 := 0) (j := 14) (t := 0) (N := 4) (fty := .array .int) C2 N dX12_init_93 dX12_init_95 (by decide) (va_up_self ..) rfl rfl hc1 rfl ar_int (fun _ => rfl) raI (by decide +kernel) (by decide +kernel) (by decide) (by decide) rfl inM tyX12_ok nmX12 (by decide) lf_43 rfl rfl rfl (by decide +kernel) (fun _ => rfl) (fun _ => rfl) (fun ad2 hA2 hc2 => ?_)
  rw [va_up2] at hc2 ⊢
  rw [← hA2 0 (by decide)]
  have e2 := (hA2 0 (by decide)).trans e1
  have C3 := C2.g (a := 1) (b := 4) (by decide) (by decide)
  refine j_aload_n C3 dX12_init_98 rfl rfl ?_
  refine j_iconst (v := 4) C3 dX12_init_99 (by decide) ?_
  refine j_nap (k0 := 0) (j := 15) (t := 1) (N := 4) (fty := .array .boolean) C3 N dX12_init_100 dX12_init_102 (by decide) (va_up_self ..) rfl rfl hc2 rfl ar_boolean (fun _ => rfl) raZ (by decide +kernel) (by decide +kernel) (by decide) (by decide) rfl inM tyX12_ok nmX12 (by decide) lf_46 rfl rfl rfl (by decide +kernel) (fun _ => rfl) (fun _ => rfl) (fun ad3 hA3 hc3 => ?_)
  rw [va_up2] at hc3 ⊢
  rw [← hA3 0 (by decide)]
  have e3 := (hA3 0 (by decide)).trans e2
  have C4 := C3.g (a := 1) (b := 4) (by decide) (by decide)
  refine j_aload_n C4 dX12_init_105 rfl rfl ?_
  refine j_iconst (v := 4) C4 dX12_init_106 (by decide) ?_
  refine j_nap (k0 := 0) (j := 16) (t := 0) (N := 4) (fty := .array .int) C4 N dX12_init_107 dX12_init_109 (by decide) (va_up_self ..) rfl rfl hc3 rfl ar_int (fun _ => rfl) raI (by decide +kernel) (by decide +kernel) (by decide) (by decide) rfl inM tyX12_ok nmX12 (by decide) lf_50 rfl rfl rfl (by decide +kernel) (fun _ => rfl) (fun _ => rfl) (fun ad4 hA4 hc4 => ?_)
  rw [va_up2] at hc4 ⊢
  rw [← hA4 0 (by decide)]
  have e4 := (hA4 0 (by decide)).trans e3
  have C5 := C4.g (a := 1) (b := 4) (by decide) (by decide)
  refine j_aload_n C5 dX12_init_112 rfl rfl ?_
  refine j_iconst (v := 4) C5 dX12_init_113 (by decide) ?_
  refine j_nap (k0 := 0) (j := 17) (t := 0) (N := 4) (fty := .array .int) C5 N dX12_init_114 dX12_init_116 (by decide) (va_up_self ..) rfl rfl hc4 rfl ar_int (fun _ => rfl) raI (by decide +kernel) (by decide +kernel) (by decide) (by decide) rfl inM tyX12_ok nmX12 (by decide) lf_53 rfl rfl rfl (by decide +kernel) (fun _ => rfl) (fun _ => rfl) (fun ad5 hA5 hc5 => ?_)
  rw [va_up2] at hc5 ⊢
  rw [← hA5 0 (by decide)]
  have e5 := (hA5 0 (by decide)).trans e4
  have C6 := C5.g (a := 1) (b := 4) (by decide) (by decide)
  refine j_aload_n C6 dX12_init_119 rfl rfl ?_
  refine j_bipush (v := 12) C6 dX12_init_120 (by decide) ?_
  refine j_nap (k0 := 0) (j := 19) (t := 0) (N := 12) (fty := .array .int) C6 N dX12_init_122 dX12_init_124 (by decide) (va_up_self ..) rfl rfl hc5 rfl ar_int (fun _ => rfl) raI (by decide +kernel) (by decide +kernel) (by decide) (by decide) rfl inM tyX12_ok nmX12 (by decide) lf_56 rfl rfl rfl (by decide +kernel) (fun _ => rfl) (fun _ => rfl) (fun ad6 hA6 hc6 => ?_)
  rw [va_up2] at hc6 ⊢
  rw [← hA6 0 (by decide)]
  have e6 := (hA6 0 (by decide)).trans e5
  have C7 := C6.g (a := 1) (b := 12) (by decide) (by decide)
  refine j_aload_n C7 dX12_init_127 rfl rfl ?_
  refine j_bipush (v := 12) C7 dX12_init_128 (by decide) ?_
  refine j_nap (k0 := 0) (j := 20) (t := 0) (N := 12) (fty := .array .int) C7 N dX12_init_130 dX12_init_132 (by decide) (va_up_self ..) rfl rfl hc6 rfl ar_int (fun _ => rfl) raI (by decide +kernel) (by decide +kernel) (by decide) (by decide) rfl inM tyX12_ok nmX12 (by decide) lf_59 rfl rfl rfl (by decide +kernel) (fun _ => rfl) (fun _ => rfl) (fun ad7 hA7 hc7 => ?_)
  rw [va_up2] at hc7 ⊢
  rw [← hA7 0 (by decide)]
  have e7 := (hA7 0 (by decide)).trans e6
  have C8 := C7.g (a := 1) (b := 12) (by decide) (by decide)
  refine j_aload_n C8 dX12_init_135 rfl rfl ?_
  refine j_bipush (v := 12) C8 dX12_init_136 (by decide) ?_
  refine j_nap (k0 := 0) (j := 21) (t := 0) (N := 12) (fty := .array .int) C8 N dX12_init_138 dX12_init_140 (by decide) (va_up_self ..) rfl rfl hc7 rfl ar_int (fun _ => rfl) raI (by decide +kernel) (by decide +kernel) (by decide) (by decide) rfl inM tyX12_ok nmX12 (by decide) lf_62 rfl rfl rfl (by decide +kernel) (fun _ => rfl) (fun _ => rfl) (fun ad8 hA8 hc8 => ?_)
  rw [va_up2] at hc8 ⊢
  rw [← hA8 0 (by decide)]
  have e8 := (hA8 0 (by decide)).trans e7
  have C9 := C8.g (a := 1) (b := 12) (by decide) (by decide)
  refine j_aload_n C9 dX12_init_143 rfl rfl ?_
  refine j_sipush (v := 192) C9 dX12_init_144 (by decide) ?_
  refine j_nap (k0 := 0) (j := 22) (t := 0) (N := 192) (fty := .array .int) C9 N dX12_init_147 dX12_init_149 (by decide) (va_up_self ..) rfl rfl hc8 rfl ar_int (fun _ => rfl) raI (by decide +kernel) (by decide +kernel) (by decide) (by decide) rfl inM tyX12_ok nmX12 (by decide) lf_65 rfl rfl rfl (by decide +kernel) (fun _ => rfl) (fun _ => rfl) (fun ad9 hA9 hc9 => ?_)
  rw [va_up2] at hc9 ⊢
  rw [← hA9 0 (by decide)]
  have e9 := (hA9 0 (by decide)).trans e8
  have C10 := C9.g (a := 1) (b := 192) (by decide) (by decide)
  refine j_aload_n C10 dX12_init_152 rfl rfl ?_
  refine j_sipush (v := 8428) C10 dX12_init_153 (by decide) ?_
  refine j_nap (k0 := 0) (j := 43) (t := 0) (N := 8428) (fty := .array .int) C10 N dX12_init_156 dX12_init_158 (by decide) (va_up_self ..) rfl rfl hc9 rfl ar_int (fun _ => rfl) raI (by decide +kernel) (by decide +kernel) (by decide) (by decide) rfl inM tyX12_ok nmX12 (by decide) lf_68 rfl rfl rfl (by decide +kernel) (fun _ => rfl) (fun _ => rfl) (fun ad10 hA10 hc10 => ?_)
  rw [va_up2] at hc10 ⊢
  rw [← hA10 0 (by decide)]
  have e10 := (hA10 0 (by decide)).trans e9
  have C11 := C10.g (a := 1) (b := 8428) (by decide) (by decide)
  simp only [xg_xg]
  exact tX12_init_20 C0 N ad10 e10 hc10 K
set_option maxRecDepth 100000 in
set_option maxHeartbeats 4000000 in
theorem tX12_init_0 {X : fj_X} (C0 : FC X Y l0 cX12_init 1 RX12 (mkR 1 49 182923 12) 0 0 none) (N : FN X "<init>") (ad0 : Nat → Nat) (e0 : ad0 0 = ad 0) (hc0 : clS 1 (va_up SMI 0 (.inr (.inl (11, 83, rfL [] [1, 2, 3, 4, 5, 6, 8, 10, 11, 12, 13, 14, 15, 16, 17, 19, 20, 21, 22, 43, 44, 45, 46, 47, 48, 49, 50, 51, 52, 53, 54, 55, 56, 57, 58, 59, 61, 62, 63, 71, 72, 75, 76, 77, 78, 79, 80, 81, 82]))))) (K : ∀ u a b, (∃ ad', u = (50, ad', SMI, hs h00 0 66 (-2)) ∧ ad' 0 = ad 0) → a ≤ 49 → b ≤ 182923 → ∀ pc lv, decode cX12_init pc = .ok (.return_, 1) → FJ (xg X a b) Y u.2.1 u.1 u.2.2.1 u.2.2.2 pc lv []) : FJ (xg X 0 0) Y ad0 1 (va_up SMI 0 (.inr (.inl (11, 83, rfL [] [1, 2, 3, 4, 5, 6, 8, 10, 11, 12, 13, 14, 15, 16, 17, 19, 20, 21, 22, 43, 44, 45, 46, 47, 48, 49, 50, 51, 52, 53, 54, 55, 56, 57, 58, 59, 61, 62, 63, 71, 72, 75, 76, 77, 78, 79, 80, 81, 82])))) (h00) 4 [(0, .ref (ad0 0))] [] := by
  have C1 := C0.g (a := 0) (b := 0) (by decide) (by decide)
  refine j_aload_n C1 dX12_init_4 rfl rfl ?_
  refine j_iconst (v := 4) C1 dX12_init_5 (by decide) ?_
  refine j_nap (k0 := 0) (j := 1) (t := 0) (N := 4) (fty := .array .int) C1 N dX12_init_6 dX12_init_8 (by decide) (va_up_self ..) rfl rfl hc0 rfl ar_int (fun _ => rfl) raI (by decide +kernel) (by decide +kernel) (by decide) (by decide) rfl inM tyX12_ok nmX12 (by decide) lf_7 rfl rfl rfl (by decide +kernel) (fun _ => rfl) (fun _ => rfl) (fun ad1 hA1 hc1 => ?_)
  rw [va_up2] at hc1 ⊢
  rw [← hA1 0 (by decide)]
  have e1 := (hA1 0 (by decide)).trans e0
  have C2 := C1.g (a := 1) (b := 4) (by decide) (by decide)
  refine j_aload_n C2 dX12_init_11 rfl rfl ?_
  refine j_bipush (v := 96) C2 dX12_init_12 (by decide) ?_
  refine j_nap (k0 := 0) (j := 2) (t := 0) (N := 96) (fty := .array .int) C2 N dX12_init_14 dX12_init_16 (by decide) (va_up_self ..) rfl rfl hc1 rfl ar_int (fun _ => rfl) raI (by decide +kernel) (by decide +kernel) (by decide) (by decide) rfl inM tyX12_ok nmX12 (by decide) lf_13 rfl rfl rfl (by decide +kernel) (fun _ => rfl) (fun _ => rfl) (fun ad2 hA2 hc2 => ?_)
  rw [va_up2] at hc2 ⊢
  rw [← hA2 0 (by decide)]
  have e2 := (hA2 0 (by decide)).trans e1
  have C3 := C2.g (a := 1) (b := 96) (by decide) (by decide)
  refine j_aload_n C3 dX12_init_19 rfl rfl ?_
  refine j_bipush (v := 96) C3 dX12_init_20 (by decide) ?_
  refine j_nap (k0 := 0) (j := 3) (t := 0) (N := 96) (fty := .array .int) C3 N dX12_init_22 dX12_init_24 (by decide) (va_up_self ..) rfl rfl hc2 rfl ar_int (fun _ => rfl) raI (by decide +kernel) (by decide +kernel) (by decide) (by decide) rfl inM tyX12_ok nmX12 (by decide) lf_16 rfl rfl rfl (by decide +kernel) (fun _ => rfl) (fun _ => rfl) (fun ad3 hA3 hc3 => ?_)
  rw [va_up2] at hc3 ⊢
  rw [← hA3 0 (by decide)]
  have e3 := (hA3 0 (by decide)).trans e2
  have C4 := C3.g (a := 1) (b := 96) (by decide) (by decide)
  refine j_aload_n C4 dX12_init_27 rfl rfl ?_
  refine j_bipush (v := 96) C4 dX12_init_28 (by decide) ?_
  refine j_nap (k0 := 0) (j := 4) (t := 0) (N := 96) (fty := .array .int) C4 N dX12_init_30 dX12_init_32 (by decide) (va_up_self ..) rfl rfl hc3 rfl ar_int (fun _ => rfl) raI (by decide +kernel) (by decide +kernel) (by decide) (by decide) rfl inM tyX12_ok nmX12 (by decide) lf_19 rfl rfl rfl (by decide +kernel) (fun _ => rfl) (fun _ => rfl) (fun ad4 hA4 hc4 => ?_)
  rw [va_up2] at hc4 ⊢
  rw [← hA4 0 (by decide)]
  have e4 := (hA4 0 (by decide)).trans e3
  have C5 := C4.g (a := 1) (b := 96) (by decide) (by decide)
  refine j_aload_n C5 dX12_init_35 rfl rfl ?_
  refine j_bipush (v := 96) C5 dX12_init_36 (by decide) ?_
  refine j_nap (k0 := 0) (j := 5) (t := 0) (N := 96) (fty := .array .int) C5 N dX12_init_38 dX12_init_40 (by decide) (va_up_self ..) rfl rfl hc4 rfl ar_int (fun _ => rfl) raI (by decide +kernel) (by decide +kernel) (by decide) (by decide) rfl inM tyX12_ok nmX12 (by decide) lf_22 rfl rfl rfl (by decide +kernel) (fun _ => rfl) (fun _ => rfl) (fun ad5 hA5 hc5 => ?_)
  rw [va_up2] at hc5 ⊢
  rw [← hA5 0 (by decide)]
  have e5 := (hA5 0 (by decide)).trans e4
  have C6 := C5.g (a := 1) (b := 96) (by decide) (by decide)
  refine j_aload_n C6 dX12_init_43 rfl rfl ?_
  refine j_bipush (v := 12) C6 dX12_init_44 (by decide) ?_
  refine j_nap (k0 := 0) (j := 6) (t := 0) (N := 12) (fty := .array .int) C6 N dX12_init_46 dX12_init_48 (by decide) (va_up_self ..) rfl rfl hc5 rfl ar_int (fun _ => rfl) raI (by decide +kernel) (by decide +kernel) (by decide) (by decide) rfl inM tyX12_ok nmX12 (by decide) lf_25 rfl rfl rfl (by decide +kernel) (fun _ => rfl) (fun _ => rfl) (fun ad6 hA6 hc6 => ?_)
  rw [va_up2] at hc6 ⊢
  rw [← hA6 0 (by decide)]
  have e6 := (hA6 0 (by decide)).trans e5
  have C7 := C6.g (a := 1) (b := 12) (by decide) (by decide)
  refine j_aload_n C7 dX12_init_51 rfl rfl ?_
  refine j_bipush (v := 30) C7 dX12_init_52 (by decide) ?_
  refine j_nap (k0 := 0) (j := 8) (t := 0) (N := 30) (fty := .array .int) C7 N dX12_init_54 dX12_init_56 (by decide) (va_up_self ..) rfl rfl hc6 rfl ar_int (fun _ => rfl) raI (by decide +kernel) (by decide +kernel) (by decide) (by decide) rfl inM tyX12_ok nmX12 (by decide) lf_28 rfl rfl rfl (by decide +kernel) (fun _ => rfl) (fun _ => rfl) (fun ad7 hA7 hc7 => ?_)
  rw [va_up2] at hc7 ⊢
  rw [← hA7 0 (by decide)]
  have e7 := (hA7 0 (by decide)).trans e6
  have C8 := C7.g (a := 1) (b := 30) (by decide) (by decide)
  refine j_aload_n C8 dX12_init_59 rfl rfl ?_
  refine j_bipush (v := 40) C8 dX12_init_60 (by decide) ?_
  refine j_nap (k0 := 0) (j := 10) (t := 0) (N := 40) (fty := .array .int) C8 N dX12_init_62 dX12_init_64 (by decide) (va_up_self ..) rfl rfl hc7 rfl ar_int (fun _ => rfl) raI (by decide +kernel) (by decide +kernel) (by decide) (by decide) rfl inM tyX12_ok nmX12 (by decide) lf_31 rfl rfl rfl (by decide +kernel) (fun _ => rfl) (fun _ => rfl) (fun ad8 hA8 hc8 => ?_)
  rw [va_up2] at hc8 ⊢
  rw [← hA8 0 (by decide)]
  have e8 := (hA8 0 (by decide)).trans e7
  have C9 := C8.g (a := 1) (b := 40) (by decide) (by decide)
  refine j_aload_n C9 dX12_init_67 rfl rfl ?_
  refine j_bipush (v := 40) C9 dX12_init_68 (by decide) ?_
  refine j_nap (k0 := 0) (j := 11) (t := 0) (N := 40) (fty := .array .int) C9 N dX12_init_70 dX12_init_72 (by decide) (va_up_self ..) rfl rfl hc8 rfl ar_int (fun _ => rfl) raI (by decide +kernel) (by decide +kernel) (by decide) (by decide) rfl inM tyX12_ok nmX12 (by decide) lf_34 rfl rfl rfl (by decide +kernel) (fun _ => rfl) (fun _ => rfl) (fun ad9 hA9 hc9 => ?_)
  rw [va_up2] at hc9 ⊢
  rw [← hA9 0 (by decide)]
  have e9 := (hA9 0 (by decide)).trans e8
  have C10 := C9.g (a := 1) (b := 40) (by decide) (by decide)
  refine j_aload_n C10 dX12_init_75 rfl rfl ?_
  refine j_bipush (v := 28) C10 dX12_init_76 (by decide) ?_
  refine j_nap (k0 := 0) (j := 12) (t := 0) (N := 28) (fty := .array .int) C10 N dX12_init_78 dX12_init_80 (by decide) (va_up_self ..) rfl rfl hc9 rfl ar_int (fun _ => rfl) raI (by decide +kernel) (by decide +kernel) (by decide) (by decide) rfl inM tyX12_ok nmX12 (by decide) lf_37 rfl rfl rfl (by decide +kernel) (fun _ => rfl) (fun _ => rfl) (fun ad10 hA10 hc10 => ?_)
  rw [va_up2] at hc10 ⊢
  rw [← hA10 0 (by decide)]
  have e10 := (hA10 0 (by decide)).trans e9
  have C11 := C10.g (a := 1) (b := 28) (by decide) (by decide)
  simp only [xg_xg]
  exact tX12_init_10 C0 N ad10 e10 hc10 K
theorem GX12_init : GM l0 yX12_init (.code yX12_init cX12_init 1 none) (mkR 1 49 182923 12) Y ad 1 (va_up SMI 0 (.inr (.inl (11, 83, rfL [] [1, 2, 3, 4, 5, 6, 8, 10, 11, 12, 13, 14, 15, 16, 17, 19, 20, 21, 22, 43, 44, 45, 46, 47, 48, 49, 50, 51, 52, 53, 54, 55, 56, 57, 58, 59, 61, 62, 63, 71, 72, 75, 76, 77, 78, 79, 80, 81, 82])))) h00 [.ref (ad 0)] (gQv Y ad 1 (va_up SMI 0 (.inr (.inl (11, 83, rfL [] [1, 2, 3, 4, 5, 6, 8, 10, 11, 12, 13, 14, 15, 16, 17, 19, 20, 21, 22, 43, 44, 45, 46, 47, 48, 49, 50, 51, 52, 53, 54, 55, 56, 57, 58, 59, 61, 62, 63, 71, 72, 75, 76, 77, 78, 79, 80, 81, 82])))) h00 (fun u => ∃ ad', u = (50, ad', SMI, hs h00 0 66 (-2)) ∧ ad' 0 = ad 0)) := met_gv (by decide) (Nat.le_of_ble_eq_true rfl) (fun X C E N K => by
  refine j_vl (lv' := [(0, .ref (ad 0))]) ?_ ⟨rfl, trivial⟩
  have hc0 : clS 1 (va_up SMI 0 (.inr (.inl (11, 83, rfL [] [1, 2, 3, 4, 5, 6, 8, 10, 11, 12, 13, 14, 15, 16, 17, 19, 20, 21, 22, 43, 44, 45, 46, 47, 48, 49, 50, 51, 52, 53, 54, 55, 56, 57, 58, 59, 61, 62, 63, 71, 72, 75, 76, 77, 78, 79, 80, 81, 82])))) := fun k hk => by
    have e : k = 0 := by omega
    subst e
    rw [va_up_self]
    exact rfL_null
  refine j_aload_n C dX12_init_0 rfl rfl ?_
  refine j_objInit C dX12_init_1 lo_RX12_1 oi_i oi_c (by decide) (by decide) ?_
  exact fj_xg1 (tX12_init_0 C N ad rfl hc0 K))
end INITM
end MG_43_initm
section MG_44_law0
/-! THE LAW'S FRAME: two worlds side by side, and the row 'out' -/
def R_law : String := "ReplayBoxLaw"
def lw_P (b : Addr) (xs : List Int32) (args : Array Value) (s : State) : Prop := args = #[.ref b] ∧ s.IntsAt b xs ∧ xs.length ≤ 3072 ∧ (Jvm.Cond.and given_1 narrow_1).before args s = true
def lw_Q (_ : Array Value) (s : State) (o : Outcome) (t : State) : Prop := o = .returned (some (.int 1)) ∧ Framed s o t [] 601024 7293034
def lw_Z (below : List Frame) (a : Array Value) (s : State) : State → Prop := fun t => ∃ o, t.status = .running ∧ Ended t below o ∧ lw_Q a s o t
abbrev lj_X : Type := (Program × Launch × Env) × (State × MethodId × List Frame × Method × Code) × (Nat × Nat × (Nat → Int32))
abbrev lj_W : Type := gU × ((Nat → Nat) × ph_H) × (Nat × (Nat → Int64))
/-- the class's world, the reference's, the row 'out': apart from each other and from what was there -/
def LWo (Y : fj_Y) (cL : ClassId) (s : State) (w : lj_W) (H : Heap) : Prop :=
  va_P Y.1 vwCl (ph_w w.1.1 Y.2 w.1.2.1 w.1.2.2.1 w.1.2.2.2) H ∧ va_P Y.1 vwCl (ph_w 50 Y.2 w.2.1.1 SM w.2.1.2) H ∧ va_P Y.1 vwCl [(w.2.2.1, .inl (cL, 1, .inr (.inl w.2.2.2)))] H ∧
  (∀ i j, i < w.1.1 → j < w.1.1 → w.1.2.1 i = w.1.2.1 j → i = j) ∧ (∀ i j, i < 50 → j < 50 → w.2.1.1 i = w.2.1.1 j → i = j) ∧ (∀ i, i < w.1.1 → s.heap.size ≤ w.1.2.1 i) ∧ (∀ j, j < 50 → s.heap.size ≤ w.2.1.1 j) ∧ s.heap.size ≤ w.2.2.1 ∧
  (∀ i j, i < w.1.1 → j < 50 → w.1.2.1 i ≠ w.2.1.1 j) ∧ (∀ i, i < w.1.1 → w.1.2.1 i ≠ w.2.2.1) ∧ (∀ j, j < 50 → w.2.1.1 j ≠ w.2.2.1)
def LJ (X : lj_X) (Y : fj_Y) (cL : ClassId) (w : lj_W) (cells slots : Nat) (pc : Nat) (lv : List (Nat × Value)) (st : List Value) : Prop := match X with
  | ((p, l, e), (s, m, below, meth, c), (b, _, _)) => ∀ (H : Heap) (locs : List Loc) (ls : Array Slot), LWo Y cL s w H → va_S (fun q => s.heap.size ≤ q) s.heap H locs → lv_has ls maxLocals lv → W p l e room_1 s m #[Value.ref b] below meth c H locs cells slots (lw_Z below #[Value.ref b] s) (F0 m pc ls st)
def LC (X : lj_X) (Y : fj_Y) (cL : ClassId) : Prop := match X with
  | ((p, l, _), (s, m, _, meth, c), (b, L, xs)) => p.tables.exec = Jvm.exec ∧ c.code = code ∧ meth.sig.returnType = ret ∧ c.maxLocals = maxLocals ∧ s.vm.findClass R_law = some m.cls ∧ (∀ w ∈ TW, w.before #[Value.ref b] s = true) ∧ va_X b L xs s s.heap ∧ b < s.heap.size ∧ meth.locks = false ∧ L ≤ 3072 ∧ l.stackTraces = false ∧ EN (fun q => s.heap.size ≤ q) s ∧ va_K Y.1 vwCl (tyl Y.2) s ∧ va_K Y.1 vwCl [(cL, .long)] s
abbrev lb (X : lj_X) : Nat := X.2.2.1
section LJR
variable {X : lj_X} {Y : fj_Y} {cL : ClassId} {w : lj_W} {cells slots : Nat} {pc : Nat} {lv : List (Nat × Value)} {st : List Value}
theorem l_vl {lv' : List (Nat × Value)} (k : LJ X Y cL w cells slots pc lv' st) (hs : lx_le lv' lv) : LJ X Y cL w cells slots pc lv st := by
  obtain ⟨⟨p, l, e⟩, ⟨s, m, below, meth, c⟩, ⟨b, L, xs⟩⟩ := X
  exact fun H locs ls hW hS hl => k H locs ls hW hS ⟨hl.1, hl.2.1, fun q hq => hl.2.2 q (lx_le_mem hs q hq)⟩
theorem l_iconst (C : LC X Y cL) {z : Int} {v : Int32} (hd : decode code pc = .ok (.iconst z, 1)) (hv : Int32.ofInt z = v) (k : LJ X Y cL w cells slots (pc + 1) lv (.int v :: st)) : LJ X Y cL w cells slots pc lv (st) := by
  obtain ⟨⟨p, l, e⟩, ⟨s, m, below, meth, c⟩, ⟨b, L, xs⟩⟩ := X
  obtain ⟨hx, hb, hret, hml, hown, hts, hX, hbl, hlk, hL, htr, hE, hK, hK2⟩ := C
  exact fun H locs ls hW hS hl => lv_iconst hx hb hd hv (k H locs ls hW hS hl)
theorem l_bipush (C : LC X Y cL) {z : Int} {v : Int32} (hd : decode code pc = .ok (.bipush z, 2)) (hv : (Int8.ofInt z).toInt32 = v) (k : LJ X Y cL w cells slots (pc + 2) lv (.int v :: st)) : LJ X Y cL w cells slots pc lv (st) := by
  obtain ⟨⟨p, l, e⟩, ⟨s, m, below, meth, c⟩, ⟨b, L, xs⟩⟩ := X
  obtain ⟨hx, hb, hret, hml, hown, hts, hX, hbl, hlk, hL, htr, hE, hK, hK2⟩ := C
  exact fun H locs ls hW hS hl => lv_bipush hx hb hd hv (k H locs ls hW hS hl)
theorem l_iload (C : LC X Y cL) {i : Nat} {x : Int32} (hd : decode code pc = .ok (.iload i, 2)) (hv : lx_get lv i = some (.int x)) (k : LJ X Y cL w cells slots (pc + 2) lv (.int x :: st)) : LJ X Y cL w cells slots pc lv (st) := by
  obtain ⟨⟨p, l, e⟩, ⟨s, m, below, meth, c⟩, ⟨b, L, xs⟩⟩ := X
  obtain ⟨hx, hb, hret, hml, hown, hts, hX, hbl, hlk, hL, htr, hE, hK, hK2⟩ := C
  exact fun H locs ls hW hS hl => lv_iload hx hb hd (hl.2.2 _ (lx_get_mem hv)) (k H locs ls hW hS hl)
theorem l_aload_n (C : LC X Y cL) {q : Fin 4} {i : Nat} {x : Nat} (hd : decode code pc = .ok (.aload_n q, 1)) (hi : (q : Nat) = i) (hv : lx_get lv i = some (.ref x)) (k : LJ X Y cL w cells slots (pc + 1) lv (.ref x :: st)) : LJ X Y cL w cells slots pc lv (st) := by
  obtain ⟨⟨p, l, e⟩, ⟨s, m, below, meth, c⟩, ⟨b, L, xs⟩⟩ := X
  obtain ⟨hx, hb, hret, hml, hown, hts, hX, hbl, hlk, hL, htr, hE, hK, hK2⟩ := C
  exact fun H locs ls hW hS hl => lv_aload_n hx hb hd hi (hl.2.2 _ (lx_get_mem hv)) (k H locs ls hW hS hl)
theorem l_iadd (C : LC X Y cL) {x y : Int32} (hd : decode code pc = .ok (.iadd, 1)) (k : LJ X Y cL w cells slots (pc + 1) lv (.int (x + y) :: st)) : LJ X Y cL w cells slots pc lv (.int y :: .int x :: st) := by
  obtain ⟨⟨p, l, e⟩, ⟨s, m, below, meth, c⟩, ⟨b, L, xs⟩⟩ := X
  obtain ⟨hx, hb, hret, hml, hown, hts, hX, hbl, hlk, hL, htr, hE, hK, hK2⟩ := C
  exact fun H locs ls hW hS hl => lv_iadd hx hb hd (k H locs ls hW hS hl)
theorem l_isub (C : LC X Y cL) {x y : Int32} (hd : decode code pc = .ok (.isub, 1)) (k : LJ X Y cL w cells slots (pc + 1) lv (.int (x - y) :: st)) : LJ X Y cL w cells slots pc lv (.int y :: .int x :: st) := by
  obtain ⟨⟨p, l, e⟩, ⟨s, m, below, meth, c⟩, ⟨b, L, xs⟩⟩ := X
  obtain ⟨hx, hb, hret, hml, hown, hts, hX, hbl, hlk, hL, htr, hE, hK, hK2⟩ := C
  exact fun H locs ls hW hS hl => lv_isub hx hb hd (k H locs ls hW hS hl)
theorem l_iand (C : LC X Y cL) {x y : Int32} (hd : decode code pc = .ok (.iand, 1)) (k : LJ X Y cL w cells slots (pc + 1) lv (.int (x &&& y) :: st)) : LJ X Y cL w cells slots pc lv (.int y :: .int x :: st) := by
  obtain ⟨⟨p, l, e⟩, ⟨s, m, below, meth, c⟩, ⟨b, L, xs⟩⟩ := X
  obtain ⟨hx, hb, hret, hml, hown, hts, hX, hbl, hlk, hL, htr, hE, hK, hK2⟩ := C
  exact fun H locs ls hW hS hl => lv_iand hx hb hd (k H locs ls hW hS hl)
theorem l_pop (C : LC X Y cL) {v : Value} (hd : decode code pc = .ok (.pop, 1)) (hc : v.category = 1) (k : LJ X Y cL w cells slots (pc + 1) lv (st)) : LJ X Y cL w cells slots pc lv (v :: st) := by
  obtain ⟨⟨p, l, e⟩, ⟨s, m, below, meth, c⟩, ⟨b, L, xs⟩⟩ := X
  obtain ⟨hx, hb, hret, hml, hown, hts, hX, hbl, hlk, hL, htr, hE, hK, hK2⟩ := C
  exact fun H locs ls hW hS hl => lv_pop hx hb hd hc (k H locs ls hW hS hl)
theorem l_goto (C : LC X Y cL) {off : Int} {tgt : Nat} (hd : decode code pc = .ok (.goto off, 3)) (ht : (pc : Int) + off = (tgt : Int)) (k : LJ X Y cL w cells slots tgt lv (st)) : LJ X Y cL w cells slots pc lv (st) := by
  obtain ⟨⟨p, l, e⟩, ⟨s, m, below, meth, c⟩, ⟨b, L, xs⟩⟩ := X
  obtain ⟨hx, hb, hret, hml, hown, hts, hX, hbl, hlk, hL, htr, hE, hK, hK2⟩ := C
  exact fun H locs ls hW hS hl => lv_goto hx hb hd ht (k H locs ls hW hS hl)
theorem l_tableIn (C : LC X Y cL) {dflt lo hi : Int} {offs : Array Int} {len : Nat} {x : Int32} {off : Int} {tgt : Nat} (hd : decode code pc = .ok (.tableswitch dflt lo hi offs, len)) (h1 : ¬ x.toInt < lo) (h2 : ¬ hi < x.toInt) (ho : offs[(x.toInt - lo).toNat]? = some off) (ht : (pc : Int) + off = (tgt : Int)) (k : LJ X Y cL w cells slots tgt lv (st)) : LJ X Y cL w cells slots pc lv (.int x :: st) := by
  obtain ⟨⟨p, l, e⟩, ⟨s, m, below, meth, c⟩, ⟨b, L, xs⟩⟩ := X
  obtain ⟨hx, hb, hret, hml, hown, hts, hX, hbl, hlk, hL, htr, hE, hK, hK2⟩ := C
  exact fun H locs ls hW hS hl => lv_tableIn hx hb hd h1 h2 ho ht (k H locs ls hW hS hl)
theorem l_sld (C : LC X Y cL) {i : Int32} {v : Int32} (hd : decode code pc = .ok (.iaload, 1)) (hi : vp_in i X.2.2.2.1) (hv : X.2.2.2.2 i.toNatClampNeg = v) (k : LJ X Y cL w cells slots (pc + 1) lv (.int v :: st)) : LJ X Y cL w cells slots pc lv (.int i :: .ref (lb X) :: st) := by
  obtain ⟨⟨p, l, e⟩, ⟨s, m, below, meth, c⟩, ⟨b, L, xs⟩⟩ := X
  obtain ⟨hx, hb, hret, hml, hown, hts, hX, hbl, hlk, hL, htr, hE, hK, hK2⟩ := C
  exact fun H locs ls hW hS hl => by
    subst hv
    exact va_sld hx hb hX hbl (fun z => absurd hbl (Nat.not_lt.mpr z)) hS hi hd (k H locs ls hW hS hl)
theorem l_slen (C : LC X Y cL) (hd : decode code pc = .ok (.arraylength, 1)) (k : LJ X Y cL w cells slots (pc + 1) lv (.int (Int32.ofNat X.2.2.2.1) :: st)) : LJ X Y cL w cells slots pc lv (.ref (lb X) :: st) := by
  obtain ⟨⟨p, l, e⟩, ⟨s, m, below, meth, c⟩, ⟨b, L, xs⟩⟩ := X
  obtain ⟨hx, hb, hret, hml, hown, hts, hX, hbl, hlk, hL, htr, hE, hK, hK2⟩ := C
  exact fun H locs ls hW hS hl => va_slen hx hb hX hbl (fun z => absurd hbl (Nat.not_lt.mpr z)) hS hd (k H locs ls hW hS hl)
theorem l_icmp_eq (C : LC X Y cL) {x y : Int32} {off : Int} {tgt : Nat} (hd : decode code pc = .ok (.if_icmp .eq off, 3)) (ht : (pc : Int) + off = (tgt : Int)) (kt : x = y → LJ X Y cL w cells slots tgt lv st) (kf : ¬ x = y → LJ X Y cL w cells slots (pc + 3) lv st) : LJ X Y cL w cells slots pc lv (.int y :: .int x :: st) := by
  obtain ⟨⟨p, l, e⟩, ⟨s, m, below, meth, c⟩, ⟨b, L, xs⟩⟩ := X
  obtain ⟨hx, hb, hret, hml, hown, hts, hX, hbl, hlk, hL, htr, hE, hK, hK2⟩ := C
  exact fun H locs ls hW hS hl => lv_icmp_eq hx hb hd ht (fun q => kt q H locs ls hW hS hl) (fun q => kf q H locs ls hW hS hl)
theorem l_icmp_ne (C : LC X Y cL) {x y : Int32} {off : Int} {tgt : Nat} (hd : decode code pc = .ok (.if_icmp .ne off, 3)) (ht : (pc : Int) + off = (tgt : Int)) (kt : ¬ x = y → LJ X Y cL w cells slots tgt lv st) (kf : x = y → LJ X Y cL w cells slots (pc + 3) lv st) : LJ X Y cL w cells slots pc lv (.int y :: .int x :: st) := by
  obtain ⟨⟨p, l, e⟩, ⟨s, m, below, meth, c⟩, ⟨b, L, xs⟩⟩ := X
  obtain ⟨hx, hb, hret, hml, hown, hts, hX, hbl, hlk, hL, htr, hE, hK, hK2⟩ := C
  exact fun H locs ls hW hS hl => lv_icmp_ne hx hb hd ht (fun q => kt q H locs ls hW hS hl) (fun q => kf q H locs ls hW hS hl)
theorem l_icmp_gt (C : LC X Y cL) {x y : Int32} {off : Int} {tgt : Nat} (hd : decode code pc = .ok (.if_icmp .gt off, 3)) (ht : (pc : Int) + off = (tgt : Int)) (kt : y < x → LJ X Y cL w cells slots tgt lv st) (kf : ¬ y < x → LJ X Y cL w cells slots (pc + 3) lv st) : LJ X Y cL w cells slots pc lv (.int y :: .int x :: st) := by
  obtain ⟨⟨p, l, e⟩, ⟨s, m, below, meth, c⟩, ⟨b, L, xs⟩⟩ := X
  obtain ⟨hx, hb, hret, hml, hown, hts, hX, hbl, hlk, hL, htr, hE, hK, hK2⟩ := C
  exact fun H locs ls hW hS hl => lv_icmp_gt hx hb hd ht (fun q => kt q H locs ls hW hS hl) (fun q => kf q H locs ls hW hS hl)
theorem l_icmp_lt (C : LC X Y cL) {x y : Int32} {off : Int} {tgt : Nat} (hd : decode code pc = .ok (.if_icmp .lt off, 3)) (ht : (pc : Int) + off = (tgt : Int)) (kt : x < y → LJ X Y cL w cells slots tgt lv st) (kf : ¬ x < y → LJ X Y cL w cells slots (pc + 3) lv st) : LJ X Y cL w cells slots pc lv (.int y :: .int x :: st) := by
  obtain ⟨⟨p, l, e⟩, ⟨s, m, below, meth, c⟩, ⟨b, L, xs⟩⟩ := X
  obtain ⟨hx, hb, hret, hml, hown, hts, hX, hbl, hlk, hL, htr, hE, hK, hK2⟩ := C
  exact fun H locs ls hW hS hl => lv_icmp_lt hx hb hd ht (fun q => kt q H locs ls hW hS hl) (fun q => kf q H locs ls hW hS hl)
theorem l_icmp_ge (C : LC X Y cL) {x y : Int32} {off : Int} {tgt : Nat} (hd : decode code pc = .ok (.if_icmp .ge off, 3)) (ht : (pc : Int) + off = (tgt : Int)) (kt : y ≤ x → LJ X Y cL w cells slots tgt lv st) (kf : ¬ y ≤ x → LJ X Y cL w cells slots (pc + 3) lv st) : LJ X Y cL w cells slots pc lv (.int y :: .int x :: st) := by
  obtain ⟨⟨p, l, e⟩, ⟨s, m, below, meth, c⟩, ⟨b, L, xs⟩⟩ := X
  obtain ⟨hx, hb, hret, hml, hown, hts, hX, hbl, hlk, hL, htr, hE, hK, hK2⟩ := C
  exact fun H locs ls hW hS hl => lv_icmp_ge hx hb hd ht (fun q => kt q H locs ls hW hS hl) (fun q => kf q H locs ls hW hS hl)
theorem l_icmp_le (C : LC X Y cL) {x y : Int32} {off : Int} {tgt : Nat} (hd : decode code pc = .ok (.if_icmp .le off, 3)) (ht : (pc : Int) + off = (tgt : Int)) (kt : x ≤ y → LJ X Y cL w cells slots tgt lv st) (kf : ¬ x ≤ y → LJ X Y cL w cells slots (pc + 3) lv st) : LJ X Y cL w cells slots pc lv (.int y :: .int x :: st) := by
  obtain ⟨⟨p, l, e⟩, ⟨s, m, below, meth, c⟩, ⟨b, L, xs⟩⟩ := X
  obtain ⟨hx, hb, hret, hml, hown, hts, hX, hbl, hlk, hL, htr, hE, hK, hK2⟩ := C
  exact fun H locs ls hW hS hl => lv_icmp_le hx hb hd ht (fun q => kt q H locs ls hW hS hl) (fun q => kf q H locs ls hW hS hl)
theorem l_if_eq (C : LC X Y cL) {x : Int32} {off : Int} {tgt : Nat} (hd : decode code pc = .ok (.ifCond .eq off, 3)) (ht : (pc : Int) + off = (tgt : Int)) (kt : x = 0 → LJ X Y cL w cells slots tgt lv st) (kf : ¬ x = 0 → LJ X Y cL w cells slots (pc + 3) lv st) : LJ X Y cL w cells slots pc lv (.int x :: st) := by
  obtain ⟨⟨p, l, e⟩, ⟨s, m, below, meth, c⟩, ⟨b, L, xs⟩⟩ := X
  obtain ⟨hx, hb, hret, hml, hown, hts, hX, hbl, hlk, hL, htr, hE, hK, hK2⟩ := C
  exact fun H locs ls hW hS hl => lv_if_eq hx hb hd ht (fun q => kt q H locs ls hW hS hl) (fun q => kf q H locs ls hW hS hl)
theorem l_if_ne (C : LC X Y cL) {x : Int32} {off : Int} {tgt : Nat} (hd : decode code pc = .ok (.ifCond .ne off, 3)) (ht : (pc : Int) + off = (tgt : Int)) (kt : ¬ x = 0 → LJ X Y cL w cells slots tgt lv st) (kf : x = 0 → LJ X Y cL w cells slots (pc + 3) lv st) : LJ X Y cL w cells slots pc lv (.int x :: st) := by
  obtain ⟨⟨p, l, e⟩, ⟨s, m, below, meth, c⟩, ⟨b, L, xs⟩⟩ := X
  obtain ⟨hx, hb, hret, hml, hown, hts, hX, hbl, hlk, hL, htr, hE, hK, hK2⟩ := C
  exact fun H locs ls hW hS hl => lv_if_ne hx hb hd ht (fun q => kt q H locs ls hW hS hl) (fun q => kf q H locs ls hW hS hl)
theorem l_istore (C : LC X Y cL) {i : Nat} {x : Int32} {lv' : List (Nat × Value)} (hd : decode code pc = .ok (.istore i, 2)) (hn : i < maxLocals) (hv : lx_put lv i (.int x) = some lv') (k : LJ X Y cL w cells slots (pc + 2) lv' st) : LJ X Y cL w cells slots pc lv (.int x :: st) := by
  obtain ⟨⟨p, l, e⟩, ⟨s, m, below, meth, c⟩, ⟨b, L, xs⟩⟩ := X
  obtain ⟨hx, hb, hret, hml, hown, hts, hX, hbl, hlk, hL, htr, hE, hK, hK2⟩ := C
  exact fun H locs ls hW hS hl => lv_istore hx hb hd hl hn rfl (fun ls2 hl2 => k H locs ls2 hW hS (lx_has hv hl2))
theorem l_iinc (C : LC X Y cL) {i : Nat} {z : Int} {x v : Int32} {lv' : List (Nat × Value)} (hd : decode code pc = .ok (.iinc i z, 3)) (hg : lx_get lv i = some (.int x)) (he : x + Int32.ofInt z = v) (hn : i < maxLocals) (hv : lx_put lv i (.int v) = some lv') (k : LJ X Y cL w cells slots (pc + 3) lv' st) : LJ X Y cL w cells slots pc lv st := by
  obtain ⟨⟨p, l, e⟩, ⟨s, m, below, meth, c⟩, ⟨b, L, xs⟩⟩ := X
  obtain ⟨hx, hb, hret, hml, hown, hts, hX, hbl, hlk, hL, htr, hE, hK, hK2⟩ := C
  obtain ⟨k0, hk0⟩ := List.getElem?_of_mem (lx_get_mem hg)
  exact fun H locs ls hW hS hl => lv_iinc hx hb hd hl hk0 he hn rfl (fun ls2 hl2 => k H locs ls2 hW hS (lx_has hv hl2))
theorem l_widen {c' s' : Nat} (h1 : cells ≤ c') (h2 : slots ≤ s') (k : LJ X Y cL w c' s' pc lv st) : LJ X Y cL w cells slots pc lv st := by
  obtain ⟨⟨p, l, e⟩, ⟨s, m, below, meth, c⟩, ⟨b, L, xs⟩⟩ := X
  exact fun H locs ls hW hS hl => W.widen h1 h2 (k H locs ls hW hS hl)
/-- the law's own end, with 1 on the stack -/
theorem l_end (C : LC X Y cL) (hd : decode code pc = .ok (.ireturn, 1)) (h1 : cells ≤ 601024) (h2 : slots ≤ 7293034) : LJ X Y cL w cells slots pc lv [.int 1] := by
  obtain ⟨⟨p, l, e⟩, ⟨s, m, below, meth, c⟩, ⟨b, L, xs⟩⟩ := X
  obtain ⟨hx, hb, hr, hml, hown, hts, hX, hbl, hlocks, hL, htr, hE, hK, hK2⟩ := C
  intro H locs ls hW hS hl
  refine va_forget (fun q hq => hS.2.2 q hq) ?_
  refine W.widen h1 h2 ?_
  intro T hT X
  obtain ⟨fs, hret, hrun, hended, hW, hframe⟩ := X.leave (v := some (.int 1)) (hlocks := hlocks) (fun h => by rw [hr] at h; cases h)
  have hmeth' : T.vm.method? m = some meth := X.method'
  refine ⟨T.setFrames fs, ?_, .returned (some (.int 1)), hrun, hended, rfl, ⟨_, rfl⟩, hW, hframe⟩
  jvm_step X.here [X.here.top, hx, hb, hd, hmeth', hr, ret, narrow_b1]
  (try refine ⟨rfl, ?_⟩); (try refine ⟨rfl, ?_⟩)
  first | (intro acts; rw [hret _ acts rfl rfl rfl]) | rw [hret _ _ rfl rfl rfl]
  exact Steps.refl _
end LJR
end MG_44_law0
section MG_45_law1
/-! CALLS OF THE LAW -/
section LCALL
variable {X : lj_X} {Y : fj_Y} {cL : ClassId} {cells slots : Nat} {pc : Nat} {lv : List (Nat × Value)} {stk st : List Value}
variable {y : MethodName} {c2 : ByteArray} {maxL2 ix : Nat} {ret2 : Option FieldType} {rm2 : Room} {av : List Value}
variable {n : Nat} {ad : Nat → Nat} {S : ph_S} {h : ph_H} {adm : Nat → Nat} {hm : ph_H} {o : Nat} {f : Nat → Int64}
theorem lw_kept {Y : fj_Y} {m : Nat} {ad : Nat → Nat} {S : ph_S} {h : ph_H} {H H1 : Heap} {A1 : Nat → Prop} (w : va_P Y.1 vwCl (ph_w m Y.2 ad S h) H) (hk : ∀ q : Nat, q < H.size → ¬ A1 q → H1[q]? = H[q]?) (hn : ∀ j, j < m → ¬ A1 (ad j)) : va_P Y.1 vwCl (ph_w m Y.2 ad S h) H1 := phP.mpr (fun j hj => (phP.mp w j hj).kept (hk _ ((phP.mp w j hj).lt) (hn j hj)))
theorem lo_kept {Y : fj_Y} {x : va_E} {o : Nat} {H H1 : Heap} {A1 : Nat → Prop} (w : va_P Y.1 vwCl [(o, x)] H) (hk : ∀ q : Nat, q < H.size → ¬ A1 q → H1[q]? = H[q]?) (hn : ¬ A1 o) : va_P Y.1 vwCl [(o, x)] H1 := w.kept (fun k q hq => by
  have h0 : k < 1 := (List.getElem?_eq_some_iff.mp hq).1
  have e : k = 0 := by omega
  subst e
  cases hq
  exact hk o ((w 0 _ rfl).lt) hn)
theorem lo_lt {Y : fj_Y} {x : va_E} {o : Nat} {H : Heap} (w : va_P Y.1 vwCl [(o, x)] H) : o < H.size := (w 0 _ rfl).lt
/-- a method of the class that makes nothing -/
theorem l_callC (C : LC X Y cL) {post : Int32 → ph_S → ph_H → Prop} (hM : MI X.1.2.1 y c2 maxL2 ret2 rm2 Y ad 60 S h (.ref (ad 0) :: av) post) (hd : decode code pc = .ok (.invokevirtual ix, 3)) (hk : CK room_1 y c2 maxL2 ret2 rm2 av.length) (h0 : rm2.cells = 0 ∧ rm2.slots = 0) (hlink : Cond.methodLink R_law ix y ∈ TW) (hins : Cond.instanceMethod y ∈ TW) (hsel : Cond.selects y.cls y y ∈ TW) (h60 : 60 ≤ n) (hS0 : S 0 = .inr (.inl (10, 13, rfC_0))) (hcl : vwCl[10]? = some (y.cls, TX11, 13)) (hpS : ∀ r S' h', post r S' h' → ∀ k, 60 ≤ k → S' k = S k) (hstk : stk = av.reverse ++ .ref (ad 0) :: st) (hroom : (st.map fun v => v.category).sum ≤ 8) (hc : cells ≤ 601024 ∧ slots ≤ 7293034)
    (kk : ∀ r S' h', post r S' h' → LJ X Y cL ((n, ad, S', hcut 60 h' h), (adm, hm), (o, f)) cells slots (pc + 3) lv (.int r :: st)) : LJ X Y cL ((n, ad, S, h), (adm, hm), (o, f)) cells slots pc lv stk := by
  obtain ⟨⟨p, l, e⟩, ⟨s, m, below, meth, c⟩, ⟨b, L, xs⟩⟩ := X
  obtain ⟨hx, hb, hret, hml, hown, hts, hX, hbl, hlk, hL, htr, hE, hK, hK2⟩ := C
  subst hstk
  intro H locs ls hW hS hl
  obtain ⟨w1, w2, w3, i1, i2, a1, a2, a3, d1, d2, d3⟩ := hW
  have hP0 : va_P Y.1 vwCl (ph_w 60 Y.2 ad S h) H := phP.mpr (fun k hk => phP.mp w1 k (Nat.lt_of_lt_of_le hk h60))
  have hD0 : va_D (fun _ => True) (ph_w n Y.2 ad S h) := phD.mpr ⟨i1, fun _ _ => trivial⟩
  have hD6 : va_D (fun _ => True) (ph_w 60 Y.2 ad S h) := phD.mpr ⟨fun i j hi hj q => i1 i j (Nat.lt_of_lt_of_le hi h60) (Nat.lt_of_lt_of_le hj h60) q, fun _ _ => trivial⟩
  have hA1 : ∀ q, va_A (ph_w 60 Y.2 ad S h) H.size q → s.heap.size ≤ q := fun q hq => by
    rcases phA.mp hq with ⟨k, hk, rfl⟩ | hq
    · exact a1 k (Nat.lt_of_lt_of_le hk h60)
    · exact Nat.le_trans hS.1 hq
  have hrc := va_recv hK hP0 hcl (q0 := 0) (a := ad 0) (fs := (List.range 13).map (ph_f ad rfC_0 (h 0))) (by rw [ph_at (by decide), hS0]; rfl)
  refine va_calli (va_runV (As := av) (rest := st) ⟨hx, hb, hml, hown, hts⟩ (hM H.size) ⟨hk.B hts hlink, hts _ hins, hts _ hsel⟩ ⟨wPc_blind, hrc, fun U hU hWm => ⟨rfl, by rw [hU], by rw [hU]; exact hP0, va_K.moved hWm.alike hK, hD6⟩⟩ rfl rfl hl.1 rfl (lv_room hroom) hd ⟨by rw [h0.1]; exact hc.1, by rw [h0.2]; exact hc.2⟩) hS (fun q _ hq => hA1 q hq) hA1 (fun r u t H1 locs1 ht hvm hp hB hz1 hk1 hS1 => ?_)
  obtain ⟨hP1, hK1, hD1⟩ := hB
  rw [ht] at hP1
  rw [h0.1, h0.2]
  obtain ⟨j1, j2⟩ := cut_join h60 w1 hD0 hP1 hk1 (hpS r u.1 u.2 hp)
  have nM : ∀ j, j < 50 → ¬ va_A (ph_w 60 Y.2 ad S h) H.size (adm j) := fun j hj z => by
    rcases phA.mp z with ⟨k, hk, e⟩ | z
    · exact d1 k j (Nat.lt_of_lt_of_le hk h60) hj e.symm
    · exact absurd ((phP.mp w2 j hj).lt) (Nat.not_lt.mpr z)
  have nO : ¬ va_A (ph_w 60 Y.2 ad S h) H.size o := fun z => by
    rcases phA.mp z with ⟨k, hk, e⟩ | z
    · exact d2 k (Nat.lt_of_lt_of_le hk h60) e.symm
    · exact absurd (lo_lt w3) (Nat.not_lt.mpr z)
  exact kk r u.1 u.2 hp H1 locs1 ls ⟨j1, lw_kept w2 hk1 nM, lo_kept w3 hk1 nO, i1, i2, a1, a2, a3, d1, d2, d3⟩ hS1 hl
/-- a method of the class that makes objects -/
theorem l_callG (C : LC X Y cL) {post : Int32 → gU → Prop} (hM : GM X.1.2.1 y (.code y c2 maxL2 ret2) rm2 Y ad n S h (.ref (ad 0) :: av) (gQi Y ad n S h post)) (hd : decode code pc = .ok (.invokevirtual ix, 3)) (hk : CK room_1 y c2 maxL2 ret2 rm2 av.length) (hlink : Cond.methodLink R_law ix y ∈ TW) (hins : Cond.instanceMethod y ∈ TW) (hsel : Cond.selects y.cls y y ∈ TW) (h60 : 60 ≤ n) (hS0 : S 0 = .inr (.inl (10, 13, rfC_0))) (hcl : vwCl[10]? = some (y.cls, TX11, 13)) (hstk : stk = av.reverse ++ .ref (ad 0) :: st) (hroom : (st.map fun v => v.category).sum ≤ 8) (hc : cells + rm2.cells ≤ 601024 ∧ slots + rm2.slots ≤ 7293034)
    (kk : ∀ r u, post r u → LJ X Y cL (u, (adm, hm), (o, f)) (cells + rm2.cells) (slots + rm2.slots) (pc + 3) lv (.int r :: st)) : LJ X Y cL ((n, ad, S, h), (adm, hm), (o, f)) cells slots pc lv stk := by
  obtain ⟨⟨p, l, e⟩, ⟨s, m, below, meth, c⟩, ⟨b, L, xs⟩⟩ := X
  obtain ⟨hx, hb, hret, hml, hown, hts, hX, hbl, hlk, hL, htr, hE, hK, hK2⟩ := C
  subst hstk
  intro H locs ls hW hS hl
  obtain ⟨w1, w2, w3, i1, i2, a1, a2, a3, d1, d2, d3⟩ := hW
  have hD0 : va_D (fun q => s.heap.size ≤ q) (ph_w n Y.2 ad S h) := phD.mpr ⟨i1, a1⟩
  have hA1 : ∀ q, va_A (ph_w n Y.2 ad S h) H.size q → s.heap.size ≤ q := gFc (G := Y.1) hD0 hS (fun _ q => q)
  have w1 : va_P Y.1 vwCl (ph_w n Y.2 ad S h) H := w1
  have hrc := va_recv hK w1 hcl (q0 := 0) (a := ad 0) (fs := (List.range 13).map (ph_f ad rfC_0 (h 0))) (by rw [ph_at (Nat.lt_of_lt_of_le (by decide) h60), hS0]; rfl)
  refine va_calli (va_runV (As := av) (rest := st) ⟨hx, hb, hml, hown, hts⟩ (hM H.size) ⟨hk.B hts hlink, hts _ hins, hts _ hsel⟩ ⟨gPc_blind, hrc, gPre hE w1 hK hD0 hS (fun _ q => q) _⟩ rfl rfl hl.1 rfl (lv_room hroom) hd hc) hS (fun q _ hq => hA1 q hq) hA1 (fun r u t H1 locs1 ht hvm hp hB hz1 hk1 hS1 => ?_)
  obtain ⟨hP1, hK1, hD1⟩ := hB
  rw [ht] at hP1
  obtain ⟨u1, u2⟩ := phD.mp hD1
  have nM : ∀ j, j < 50 → ¬ va_A (ph_w n Y.2 ad S h) H.size (adm j) := fun j hj z => by
    rcases phA.mp z with ⟨k, hk, e⟩ | z
    · exact d1 k j hk hj e.symm
    · exact absurd ((phP.mp w2 j hj).lt) (Nat.not_lt.mpr z)
  have nO : ¬ va_A (ph_w n Y.2 ad S h) H.size o := fun z => by
    rcases phA.mp z with ⟨k, hk, e⟩ | z
    · exact d2 k hk e.symm
    · exact absurd (lo_lt w3) (Nat.not_lt.mpr z)
  exact kk r u hp H1 locs1 ls ⟨hP1, lw_kept w2 hk1 nM, lo_kept w3 hk1 nO, u1, i2, fun k hk => hA1 _ (u2 k hk), a2, a3, fun i j hi hj e => nM j hj (by have e : u.2.1 i = adm j := e; rw [← e]; exact u2 i hi), fun i hi e => nO (by have e : u.2.1 i = o := e; rw [← e]; exact u2 i hi), d3⟩ hS1 hl
/-- a method of the reference -/
theorem l_callM (C : LC X Y cL) {post : Int32 → ph_S → ph_H → Prop} (hM : MI X.1.2.1 y c2 maxL2 ret2 rm2 Y adm 50 SM hm (.ref (adm 0) :: av) post) (hd : decode code pc = .ok (.invokevirtual ix, 3)) (hk : CK room_1 y c2 maxL2 ret2 rm2 av.length) (h0 : rm2.cells = 0 ∧ rm2.slots = 0) (hlink : Cond.methodLink R_law ix y ∈ TW) (hins : Cond.instanceMethod y ∈ TW) (hsel : Cond.selects y.cls y y ∈ TW) (hcl : vwCl[11]? = some (y.cls, TX12, 83)) (hpS : ∀ r S' h', post r S' h' → S' = SM) (hstk : stk = av.reverse ++ .ref (adm 0) :: st) (hroom : (st.map fun v => v.category).sum ≤ 8) (hc : cells ≤ 601024 ∧ slots ≤ 7293034)
    (kk : ∀ r S' h', post r S' h' → LJ X Y cL ((n, ad, S, h), (adm, h'), (o, f)) cells slots (pc + 3) lv (.int r :: st)) : LJ X Y cL ((n, ad, S, h), (adm, hm), (o, f)) cells slots pc lv stk := by
  obtain ⟨⟨p, l, e⟩, ⟨s, m, below, meth, c⟩, ⟨b, L, xs⟩⟩ := X
  obtain ⟨hx, hb, hret, hml, hown, hts, hX, hbl, hlk, hL, htr, hE, hK, hK2⟩ := C
  subst hstk
  intro H locs ls hW hS hl
  obtain ⟨w1, w2, w3, i1, i2, a1, a2, a3, d1, d2, d3⟩ := hW
  have hD0 : va_D (fun q => s.heap.size ≤ q) (ph_w 50 Y.2 adm SM hm) := phD.mpr ⟨i2, a2⟩
  have hA1 : ∀ q, va_A (ph_w 50 Y.2 adm SM hm) H.size q → s.heap.size ≤ q := gFc (G := Y.1) hD0 hS (fun _ q => q)
  have hrc := va_recv hK w2 hcl (q0 := 0) (a := adm 0) (fs := (List.range 83).map (ph_f adm rfM (hm 0))) (by rw [ph_at (by decide)]; rfl)
  refine va_calli (va_runV (As := av) (rest := st) ⟨hx, hb, hml, hown, hts⟩ (hM H.size) ⟨hk.B hts hlink, hts _ hins, hts _ hsel⟩ ⟨wPc_blind, hrc, fun U hU hWm => ⟨rfl, by rw [hU], by rw [hU]; exact w2, va_K.moved hWm.alike hK, hD0.weaken (fun _ _ _ _ => trivial)⟩⟩ rfl rfl hl.1 rfl (lv_room hroom) hd ⟨by rw [h0.1]; exact hc.1, by rw [h0.2]; exact hc.2⟩) hS (fun q _ hq => hA1 q hq) hA1 (fun r u t H1 locs1 ht hvm hp hB hz1 hk1 hS1 => ?_)
  obtain ⟨hP1, hK1, hD1⟩ := hB
  rw [ht, hpS r u.1 u.2 hp] at hP1
  rw [h0.1, h0.2]
  have nC : ∀ j, j < n → ¬ va_A (ph_w 50 Y.2 adm SM hm) H.size (ad j) := fun j hj z => by
    rcases phA.mp z with ⟨k, hk, e⟩ | z
    · exact d1 j k hj hk e
    · exact absurd ((phP.mp w1 j hj).lt) (Nat.not_lt.mpr z)
  have nO : ¬ va_A (ph_w 50 Y.2 adm SM hm) H.size o := fun z => by
    rcases phA.mp z with ⟨k, hk, e⟩ | z
    · exact d3 k hk e.symm
    · exact absurd (lo_lt w3) (Nat.not_lt.mpr z)
  exact kk r u.1 u.2 hp H1 locs1 ls ⟨lw_kept w1 hk1 nC, hP1, lo_kept w3 hk1 nO, i1, i2, a1, a2, a3, d1, d2, d3⟩ hS1 hl
end LCALL
/-! HELPERS round the calls that throw: 0 and the answer in 'out', 1 IllegalArgumentException, 2 IllegalStateException -/
def hA (Y : fj_Y) (ad : Nat → Nat) (n : Nat) (S : ph_S) (h : ph_H) (o sz : Nat) : Nat → Prop := fun q => va_A (ph_w n Y.2 ad S h) sz q ∨ q = o
def hPc (Y : fj_Y) (cL : ClassId) (ad : Nat → Nat) (n : Nat) (S : ph_S) (h : ph_H) (o : Nat) (f : Nat → Int64) (av : List Value) (sz : Nat) : Array Value → State → Prop := va_Pc av (fun U => U.heap.size = sz ∧ wW Y ad n S h (fun _ => True) U ∧ EN (hA Y ad n S h o sz) U ∧ va_P Y.1 vwCl [(o, .inl (cL, 1, .inr (.inl f)))] U.heap ∧ va_K Y.1 vwCl [(cL, .long)] U ∧ ∀ k, k < n → ad k ≠ o)
theorem hPc_blind {Y : fj_Y} {cL : ClassId} {ad : Nat → Nat} {n : Nat} {S : ph_S} {h : ph_H} {o : Nat} {f : Nat → Int64} {av : List Value} {sz : Nat} : FrameBlind (hPc Y cL ad n S h o f av sz) := fun a U g mk q => by
  obtain ⟨q0, q1, ⟨qP, qK, qD⟩, qE, qo, qL, qn⟩ := q
  exact ⟨q0, q1, ⟨qP, va_K.moved (u := U) (U := U.calling g mk a) (Vm.Alike.refl U.vm) qK, qD⟩, qE.blind, qo, va_K.moved (u := U) (U := U.calling g mk a) (Vm.Alike.refl U.vm) qL, qn⟩
def hB (Y : fj_Y) (cL : ClassId) (ad : Nat → Nat) (n : Nat) (S : ph_S) (h : ph_H) (o sz : Nat) (u : gU × (Nat → Int64)) (t : State) : Prop := gB Y ad n S h sz u.1 t ∧ va_P Y.1 vwCl [(o, .inl (cL, 1, .inr (.inl u.2)))] t.heap
def hPost (pv : Int32 → gU → Prop) (px : String → gU → Prop) (f : Nat → Int64) : Int32 → gU × (Nat → Int64) → Prop := fun r u => (∃ v, pv v u.1 ∧ r = 0 ∧ u.2 0 = v.toInt64) ∨ (px eIA u.1 ∧ r = 1 ∧ u.2 = f) ∨ (px eIS u.1 ∧ r = 2 ∧ u.2 = f)
def HM (l : Launch) (y : MethodName) (w : Cond) (rm : Room) (Y : fj_Y) (cL : ClassId) (ad : Nat → Nat) (n : Nat) (S : ph_S) (h : ph_H) (o : Nat) (f : Nat → Int64) (av : List Value) (post : Int32 → gU × (Nat → Int64) → Prop) : Prop := ∀ sz : Nat, Met l y (w :: TW) rm (hPc Y cL ad n S h o f av sz) (va_Qi post (hB Y cL ad n S h o sz) (hA Y ad n S h o sz)) rm.cells rm.slots (hA Y ad n S h o sz)
theorem l_callH {X : lj_X} {Y : fj_Y} {cL : ClassId} {cells slots : Nat} {pc : Nat} {lv : List (Nat × Value)} {stk st : List Value} {y : MethodName} {c2 : ByteArray} {maxL2 ix : Nat} {ret2 : Option FieldType} {hh : List (Nat × Nat × Nat × Nat)} {rm2 : Room} {av : List Value} {n : Nat} {ad : Nat → Nat} {S : ph_S} {h : ph_H} {adm : Nat → Nat} {hm : ph_H} {o : Nat} {f : Nat → Int64} (C : LC X Y cL) {post : Int32 → gU × (Nat → Int64) → Prop} (hM : HM X.1.2.1 y (.codeWith y c2 maxL2 ret2 hh) rm2 Y cL ad n S h o f av post) (hd : decode code pc = .ok (.invokestatic ix, 3)) (hcode : Cond.codeWith y c2 maxL2 ret2 hh ∈ TW) (hini : Cond.initialized y.cls ∈ TW) (hy : y.cls ≠ "java/lang/invoke/MethodHandle" ∧ y.cls ≠ "java/lang/invoke/VarHandle") (hk : (parseMethodDescriptor y.desc).map (fun d => d.parameters.length) = some av.length) (hfr : rm2.frames + 1 ≤ room_1.frames ∧ 8 + (maxL2 + 11) + rm2.locals ≤ room_1.locals) (hlink : Cond.methodLink R_law ix y ∈ TW) (hst : Cond.static y ∈ TW) (hstk : stk = av.reverse ++ st) (hroom : (st.map fun v => v.category).sum ≤ 8) (hc : cells + rm2.cells ≤ 601024 ∧ slots + rm2.slots ≤ 7293034)
    (kk : ∀ r u, post r u → LJ X Y cL (u.1, (adm, hm), (o, u.2)) (cells + rm2.cells) (slots + rm2.slots) (pc + 3) lv (.int r :: st)) : LJ X Y cL ((n, ad, S, h), (adm, hm), (o, f)) cells slots pc lv stk := by
  obtain ⟨⟨p, l, e⟩, ⟨s, m, below, meth, c⟩, ⟨b, L, xs⟩⟩ := X
  obtain ⟨hx, hb, hret, hml, hown, hts, hX, hbl, hlk, hL, htr, hE, hK, hK2⟩ := C
  subst hstk
  intro H locs ls hW hS hl
  obtain ⟨w1, w2, w3, i1, i2, a1, a2, a3, d1, d2, d3⟩ := hW
  have hD0 : va_D (fun q => s.heap.size ≤ q) (ph_w n Y.2 ad S h) := phD.mpr ⟨i1, a1⟩
  have hA0 : ∀ q, va_A (ph_w n Y.2 ad S h) H.size q → s.heap.size ≤ q := gFc (G := Y.1) hD0 hS (fun _ q => q)
  have hA1 : ∀ q, hA Y ad n S h o H.size q → s.heap.size ≤ q := fun q hq => by
    rcases hq with hq | rfl
    · exact hA0 q hq
    · exact a3
  refine va_calli (vx_runSW (hh := hh) (bytes := c2) (maxL := maxL2) (ret := ret2) (As := av) (rest := st) ⟨hx, hb, hml, hown, hts⟩ (hM H.size) ⟨⟨rfl, rfl, hfr.1, hfr.2, pay_in (big := TW) hts (fun w hw => ?_), List.mem_cons_self⟩, hts _ hcode, hts _ hini, hy, fun sig hs => ?_, hts _ hlink, hts _ hst⟩ ⟨hPc_blind, fun U hU hWm => ⟨rfl, by rw [hU], ⟨by rw [hU]; exact w1, va_K.moved hWm.alike hK, hD0.weaken (fun _ _ _ _ => trivial)⟩, by subst hU; exact hE.warm hWm hS hA1, by rw [hU]; exact w3, va_K.moved hWm.alike hK2, d2⟩⟩ rfl rfl hl.1 rfl (lv_room hroom) hd hc) hS (fun q _ hq => hA1 q hq) hA1 (fun r u t H1 locs1 ht hvm hp hB hz1 hk1 hS1 => ?_)
  · rcases List.mem_cons.mp hw with e | e
    · rw [e]; exact TW_good _ hcode
    · exact TW_good _ e
  · rw [hs] at hk
    exact (Option.some.inj hk).symm
  · obtain ⟨⟨hP1, hK1, hD1⟩, hO1⟩ := hB
    rw [ht] at hP1 hO1
    obtain ⟨u1, u2⟩ := phD.mp hD1
    have nM0 : ∀ j, j < 50 → ¬ va_A (ph_w n Y.2 ad S h) H.size (adm j) := fun j hj z => by
      rcases phA.mp z with ⟨k, hk, e⟩ | z
      · exact d1 k j hk hj e.symm
      · exact absurd ((phP.mp w2 j hj).lt) (Nat.not_lt.mpr z)
    have nM : ∀ j, j < 50 → ¬ hA Y ad n S h o H.size (adm j) := fun j hj z => z.elim (nM0 j hj) (d3 j hj)
    have nO : ¬ va_A (ph_w n Y.2 ad S h) H.size o := fun z => by
      rcases phA.mp z with ⟨k, hk, e⟩ | z
      · exact d2 k hk e.symm
      · exact absurd (lo_lt w3) (Nat.not_lt.mpr z)
    exact kk r u hp H1 locs1 ls ⟨hP1, lw_kept w2 hk1 nM, hO1, u1, i2, fun k hk => hA0 _ (u2 k hk), a2, a3, fun i j hi hj e => nM0 j hj (by have e : u.1.2.1 i = adm j := e; rw [← e]; exact u2 i hi), fun i hi e => nO (by have e : u.1.2.1 i = o := e; rw [← e]; exact u2 i hi), d3⟩ hS1 hl
end MG_45_law1
