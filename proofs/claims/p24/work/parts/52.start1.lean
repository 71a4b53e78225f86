/-! WHAT THE TABLES SAY at the law's entry -/
theorem vk_ex {own tx : String} {k : Nat} {A : Array Value} {U : State} (h : (Cond.stringRef own k tx).before A U = true) : ∃ a, vk_R own k tx a U := by
  have hcur : ∃ cur, U.vm.findClass own = some cur := by
    have h1 := h
    simp only [Cond.before, Cond.holds, Cond.value] at h1
    cases hc : U.vm.findClass own with
    | none => simp [hc] at h1
    | some cur => exact ⟨cur, rfl⟩
  obtain ⟨cur, hcur⟩ := hcur
  obtain ⟨-, -, -, sa, -, -, -, -, -, hev⟩ := Cond.stringRef_spec hcur h
  exact ⟨sa, vk_R.of h hev⟩
theorem en_M : ∀ w ∈ enM.map (fun q => Cond.methodLinkNest q.1 q.2.1 q.2.2.1 q.2.2.2), w ∈ tables_1 := tb_list [33, 156, 899, 904] (by decide +kernel)
theorem en_C : ∀ w ∈ enC.map (fun q => Cond.castable q.1 q.2), w ∈ tables_1 := tb_list [964, 1034, 1067, 1632, 1633, 1634, 1635, 1636] (by decide +kernel)
theorem en_D : ∀ w ∈ enD.map (fun q => Cond.declares q), w ∈ tables_1 := tb_list [965, 966, 967, 968, 969, 970] (by decide +kernel)
theorem en_S : ∀ w ∈ enS.map (fun q => Cond.stringRef q.1 q.2.1 q.2.2), w ∈ tables_1 := tb_list [1003, 1041, 1057, 1074, 1089, 1097, 1098] (by decide +kernel)
theorem en_N : (enN.map (fun q => Cond.not (.castable q.1 q.2))).all (fun w => decide (w ∈ flatC (Cond.and given_1 narrow_1))) = true := by decide +kernel
theorem en_T1 : Cond.arrayOver (.object "ReplayBox$Held") ∈ tables_1 := List.mem_of_getElem? (i := 309) (by decide +kernel)
theorem en_T2 : Cond.arrayOver (.array .int) ∈ tables_1 := List.mem_of_getElem? (i := 267) (by decide +kernel)
theorem en_Z1 : Cond.laysStatic Bundle.tN "UNASSIGNED_STACK" Bundle.steD ∈ tables_1 := List.mem_of_getElem? (i := 989) (by decide +kernel)
theorem en_Z2 : Cond.laysStatic Bundle.tN "SUPPRESSED_SENTINEL" Bundle.listD ∈ tables_1 := List.mem_of_getElem? (i := 991) (by decide +kernel)
theorem en_I : Cond.initialized Bundle.tN ∈ tables_1 := List.mem_of_getElem? (i := 11) (by decide +kernel)
theorem EN0 {s : State} {args : Array Value} (hts : ∀ w ∈ lw_tbl, w.before args s = true) (hgv : (Cond.and given_1 narrow_1).before args s = true) : EN (fun q => s.heap.size ≤ q) s := by
  have ht : ∀ w ∈ tables_1, w.before args s = true := fun w hw => hts w (List.mem_append_right _ hw)
  have hf := flat_of_before _ hgv
  have hA : ∀ a : Nat, a < s.heap.size → ¬ s.heap.size ≤ a := fun a h => Nat.not_le.mpr h
  refine ⟨fun q hq => va_Nw.of rfl (ht _ (en_M _ (List.mem_map.mpr ⟨q, hq, rfl⟩))), fun q hq => va_Nw.of rfl (ht _ (en_C _ (List.mem_map.mpr ⟨q, hq, rfl⟩))), fun q hq => va_Nw.of rfl (ht _ (en_D _ (List.mem_map.mpr ⟨q, hq, rfl⟩))), fun q hq => va_Nc.of (hf _ ?_), fun q hq => vk_ex (ht _ (en_S _ (List.mem_map.mpr ⟨q, hq, rfl⟩))), va_AO.of (ht _ en_T1), ht _ en_T2, vx_Zqof (ht _ en_Z1) (ht _ en_I) (hf _ (by decide +kernel)) hA, vx_Zqof (ht _ en_Z2) (ht _ en_I) (hf _ (by decide +kernel)) hA⟩
  have h1 := List.all_eq_true.mp en_N _ (List.mem_map.mpr ⟨q, hq, rfl⟩)
  simp only [decide_eq_true_eq] at h1
  exact h1
theorem ar_I0 : Cond.arrayClass .int ∈ TW := (TWt 77 (by decide +kernel) (by decide +kernel))
theorem ar_Z0 : Cond.arrayClass .boolean ∈ TW := (TWt 1369 (by decide +kernel) (by decide +kernel))
theorem ar_B0 : Cond.arrayClass .byte ∈ TW := (TWt 838 (by decide +kernel) (by decide +kernel))
theorem KA0 {s : State} {args : Array Value} (hts : ∀ w ∈ TW, w.before args s = true) (ho : (Cond.arrayOver (.object "ReplayBox$Held")).before args s = true) (ha : (Cond.arrayOver (.array .int)).before args s = true) : ∃ Y : fj_Y, va_K Y.1 vwCl (tyl Y.2) s := by
  obtain ⟨c0, i0, k0⟩ := u_known (n := 2) hts inX0 (hts _ is_X0)
  obtain ⟨c1, i1, k1⟩ := u_known (n := 2) hts inX2 (hts _ is_X2)
  obtain ⟨c2, i2, k2⟩ := u_known (n := 18) hts inX3 (hts _ is_X3)
  obtain ⟨c3, i3, k3⟩ := u_known (n := 7) hts inX4 (hts _ is_X4)
  obtain ⟨c4, i4, k4⟩ := u_known (n := 8) hts inX5 (hts _ is_X5)
  obtain ⟨c5, i5, k5⟩ := u_known (n := 11) hts inX6 (hts _ is_X6)
  obtain ⟨c6, i6, k6⟩ := u_known (n := 1) hts inX7 (hts _ is_X7)
  obtain ⟨c7, i7, k7⟩ := u_known (n := 1) hts inX8 (hts _ is_X8)
  obtain ⟨c8, i8, k8⟩ := u_known (n := 2) hts inX9 (hts _ is_X9)
  obtain ⟨c9, i9, k9⟩ := u_known (n := 17) hts inX10 (hts _ is_X10)
  obtain ⟨c10, i10, k10⟩ := u_known (n := 13) hts inX11 (hts _ is_X11)
  obtain ⟨c11, i11, k11⟩ := u_known (n := 83) hts inM (hts _ is_X12)
  obtain ⟨a0, u0, v0, f0, g0, h0⟩ := Cond.arrayClass_spec (hts _ ar_I0)
  obtain ⟨a1, u1, v1, f1, g1, h1⟩ := Cond.arrayClass_spec (hts _ ar_Z0)
  obtain ⟨a2, u2, v2, f2, g2, h2⟩ := Cond.arrayClass_spec (hts _ ar_B0)
  obtain ⟨v3, a3, u3, e3, -, g3, h3, f3⟩ := Cond.arrayOver_spec ho
  obtain ⟨v4, a4, u4, e4, -, g4, h4, f4⟩ := arrayOverA_spec ha
  refine ⟨((fun k => match k with
    | 0 => c0
    | 1 => c1
    | 2 => c2
    | 3 => c3
    | 4 => c4
    | 5 => c5
    | 6 => c6
    | 7 => c7
    | 8 => c8
    | 9 => c9
    | 10 => c10
    | 11 => c11
    | _ => c0, fun k => match k with
    | 0 => i0
    | 1 => i1
    | 2 => i2
    | 3 => i3
    | 4 => i4
    | 5 => i5
    | 6 => i6
    | 7 => i7
    | 8 => i8
    | 9 => i9
    | 10 => i10
    | 11 => i11
    | _ => i0), fun k => match k with
    | 0 => a0
    | 1 => a1
    | 2 => a2
    | 3 => a3
    | _ => a4), fun k q hq => ?_, fun k q hq => ?_⟩
  · match k, hq with
    | 0, hq => cases hq; exact k0
    | 1, hq => cases hq; exact k1
    | 2, hq => cases hq; exact k2
    | 3, hq => cases hq; exact k3
    | 4, hq => cases hq; exact k4
    | 5, hq => cases hq; exact k5
    | 6, hq => cases hq; exact k6
    | 7, hq => cases hq; exact k7
    | 8, hq => cases hq; exact k8
    | 9, hq => cases hq; exact k9
    | 10, hq => cases hq; exact k10
    | 11, hq => cases hq; exact k11
    | (k + 12), hq => simp at hq
  · match k, hq with
    | 0, hq => cases hq; exact ⟨fun n z => ⟨fun k h => (by cases h), u0, g0, v0, h0⟩, f0⟩
    | 1, hq => cases hq; exact ⟨fun n z => ⟨fun k h => (by cases h), u1, g1, v1, h1⟩, f1⟩
    | 2, hq => cases hq; exact ⟨fun n z => ⟨fun k h => (by cases h), u2, g2, v2, h2⟩, f2⟩
    | 3, hq => cases hq; exact ⟨fun n z => ⟨fun k h => (by cases h), u3, g3, v3, h3⟩, u3, v3, g3, h3, e3, f3⟩
    | 4, hq => cases hq; exact ⟨fun n z => ⟨fun k h => (by cases h), u4, g4, v4, h4⟩, f4⟩
    | (k + 5), hq => simp at hq
