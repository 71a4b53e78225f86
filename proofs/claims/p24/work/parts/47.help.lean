/-! the law's helpers -/
theorem ph_cons {Y : fj_Y} {x : va_E} {o m : Nat} {ad : Nat → Nat} {S : ph_S} {h : ph_H} {H : Heap} (a : va_P Y.1 vwCl [(o, x)] H) (b : va_P Y.1 vwCl (ph_w m Y.2 ad S h) H) : va_P Y.1 vwCl ((o, x) :: ph_w m Y.2 ad S h) H := va_P.app (w1 := [(o, x)]) a b
theorem ph_consD {Y : fj_Y} {x : va_E} {o m : Nat} {ad : Nat → Nat} {S : ph_S} {h : ph_H} {A : Nat → Prop} (ho : A o) (b : va_D A (ph_w m Y.2 ad S h)) (hn : ∀ k, k < m → ad k ≠ o) : va_D A ((o, x) :: ph_w m Y.2 ad S h) := va_D.app (w1 := [(o, x)]) ⟨fun i j p q hi hj _ => by
  have h1 : i < 1 := (List.getElem?_eq_some_iff.mp hi).1
  have h2 : j < 1 := (List.getElem?_eq_some_iff.mp hj).1
  omega, fun k q hk => by
  have h1 : k < 1 := (List.getElem?_eq_some_iff.mp hk).1
  have e : k = 0 := by omega
  subst e
  cases hk
  exact ho⟩ b (fun i j p q hi hj => by
  have h1 : i < 1 := (List.getElem?_eq_some_iff.mp hi).1
  have e : i = 0 := by omega
  subst e
  have ei := (Option.some.inj hi).symm
  subst ei
  have hl : j < (ph_w m Y.2 ad S h).length := (List.getElem?_eq_some_iff.mp hj).1
  have hk : j < m := by
    unfold ph_w at hl
    simpa using hl
  have ej := (Option.some.inj ((ph_at hk).symm.trans hj)).symm
  subst ej
  exact fun e => hn j hk e.symm)
set_option maxRecDepth 100000 in
theorem HL_value {l0 : Launch} {Y : fj_Y} {cL : ClassId} {ad : Nat → Nat} {n : Nat} {S : ph_S} {h : ph_H} {o : Nat} {f : Nat → Int64} {a0 a1 a2 : Int32} {pv : Int32 → gU → Prop} {px : String → gU → Prop} (hM : XM l0 yX11_value (.code yX11_value cX11_value 6 (some .int)) (mkR 6 1 6 143) Y ad n S h (.ref (ad 0) :: [.int a0, .int a1, .int a2]) (gQi Y ad n S h pv) px) (hpx : ∀ E u, px E u → E = eIA ∨ E = eIS) (h0 : 0 < n) (hS0 : S 0 = .inr (.inl (10, 13, rfC_0))) : HM l0 yL_value (.codeWith yL_value cL_value 6 (some .int) [(0, 12, 15, 13), (0, 12, 19, 15)]) (mkR 7 1 6 168) Y cL ad n S h o f [.ref (ad 0), .int a0, .int a1, .int a2, .ref o] (hPost pv px f) := by
  intro sz
  refine va_MetW (cc := cL_value) (maxL := 6) (ret := some .int) (hh := [(0, 12, 15, 13), (0, 12, 19, 15)]) (by decide) rfl ?_
  intro p e s m args below meth c s₁ B hml hv
  obtain ⟨rfl, hsz, ⟨hP, hK, hD0⟩, hE, hO, hK2, hne⟩ := hv
  subst hsz
  have hts0 := atoms_spec (ws := Cond.codeWith yL_value cL_value 6 (some .int) [(0, 12, 15, 13), (0, 12, 19, 15)] :: TW) B.pre
  have hts : ∀ w ∈ TW, w.before ([.ref (ad 0), .int a0, .int a1, .int a2, .ref o] : List Value).toArray s = true := fun w hw => hts0 w (List.mem_cons_of_mem _ hw)
  have hown : s.vm.findClass RL = some m.cls := findClass_of_methodNamed B.named
  have hT : c.exceptionTable.toList = tableOf [(0, 12, 15, 13), (0, 12, 19, 15)] := vx_table (x := yL_value) B (hts0 _ List.mem_cons_self)
  have hl0 := lv_entry ([.ref (ad 0), .int a0, .int a1, .int a2, .ref o] : List Value) (n := 6) (Nat.le_of_ble_eq_true rfl)
  rw [lg_entry_eq]
  suffices K : ∀ ls, lv_has ls 6 (lv_args 0 [.ref (ad 0), .int a0, .int a1, .int a2, .ref o]) → W p l0 e (headSpec (Cond.codeWith yL_value cL_value 6 (some .int) [(0, 12, 15, 13), (0, 12, 19, 15)] :: TW) (mkR 7 1 6 168)).room s m ([.ref (ad 0), .int a0, .int a1, .int a2, .ref o] : List Value).toArray below meth c s.heap [] 0 0 (MQ below (va_Qi (hPost pv px f) (hB Y cL ad n S h o s.heap.size) (hA Y ad n S h o s.heap.size)) ([.ref (ad 0), .int a0, .int a1, .int a2, .ref o] : List Value).toArray s 1 6 (hA Y ad n S h o s.heap.size)) (F0 m 0 ls []) from K _ hl0
  intro ls hl
  have g : ∀ i v, lx_get (lv_args 0 [.ref (ad 0), .int a0, .int a1, .int a2, .ref o]) i = some v → ls[i]? = some (.val v) := fun i v q => hl.2.2 _ (lx_get_mem q)
  refine lv_aload B.exec B.bytes dL_value_0 (g 4 (.ref o) rfl) ?_
  refine lv_iconst (v := 0) B.exec B.bytes dL_value_2 (by decide) ?_
  refine lv_aload_n B.exec B.bytes dL_value_3 rfl (g 0 (.ref (ad 0)) rfl) ?_
  refine lv_iload_n B.exec B.bytes dL_value_4 rfl (g 1 (.int a0) rfl) ?_
  refine lv_iload_n B.exec B.bytes dL_value_5 rfl (g 2 (.int a1) rfl) ?_
  refine lv_iload_n B.exec B.bytes dL_value_6 rfl (g 3 (.int a2) rfl) ?_
  have hrc := va_recv hK hP (show vwCl[10]? = some (RX11, TX11, 13) from rfl) (q0 := 0) (a := ad 0) (fs := (List.range 13).map (ph_f ad rfC_0 (h 0))) (by rw [ph_at h0, hS0]; rfl)
  have nO : ¬ va_A (ph_w n Y.2 ad S h) s.heap.size o := fun z => by
    rcases phA.mp z with ⟨k, hk, e⟩ | z
    · exact hne k hk e.symm
    · exact absurd (lo_lt hO) (Nat.not_lt.mpr z)
  refine vx_calli (A0 := hA Y ad n S h o s.heap.size) (vx_runV (As := [.int a0, .int a1, .int a2]) (rest := [.int 0, .ref o]) ⟨B.exec, B.bytes, hml, hown, hts⟩ (hM s.heap.size) ⟨(CKX11_value (rm := mkR 7 1 6 168) (by decide)).B hts lk_RL_7, hts _ in_X11_value, hts _ se_X11_value⟩ ⟨gPc_blind, hrc, fun U hU hW => ⟨rfl, by rw [hU], ⟨by rw [hU]; exact hP, va_K.moved hW.alike hK, hD0⟩, hE.warm (locs := []) hW (by rw [hU]; exact va_S.rf) (fun q hq => Or.inl hq)⟩⟩ rfl rfl hl.1 rfl (lv_room (Nat.le_of_ble_eq_true rfl)) dL_value_7 ⟨by decide, by decide⟩) va_S.rf (fun q _ hq => Or.inl hq) (fun q hq => Or.inl hq) (fun q _ hq => Or.inl hq) (fun Ex ce q9 u t H1 locs1 ht hvm _ hB1 hz1 hk1 hS1 hce hcv hcl => ?_) (fun r u t H1 locs1 ht hvm hp hB1 hz1 hk1 hS1 => ?_)
  · obtain ⟨hp, hP1, hK1, hD1⟩ := hB1
    rw [ht] at hP1
    have hO1 := lo_kept hO hk1 nO
    rcases hpx Ex u hp with rfl | rfl
    · refine vx_catch (name := eIA) hown [] ⟨0, 12, 15, 13⟩ [⟨0, 12, 19, 15⟩] (hT.trans rfl) (fun z hz => absurd hz List.not_mem_nil) rfl (by decide) (hts _ cl_RL_13) (va_Nw.use rfl (hE.2.1 (eIA, eIA) (by decide +kernel))) hce hcv hcl ?_
      refine lv_astore B.exec B.bytes dL_value_15 hl (by decide) rfl (fun ls2 hl2 => ?_)
      refine lv_iconst (v := 1) B.exec B.bytes dL_value_17 (by decide) ?_
      exact W.zret (v := 1) B.exec B.bytes B.returns rfl (fun t2 ht2 hW2 => ⟨⟨1, (u, f), rfl, Or.inr (Or.inl ⟨hp, rfl, rfl⟩), ⟨by rw [ht2]; exact hP1, va_K.moved hW2.alike hK, hD1⟩, by rw [ht2]; exact hO1⟩, hS1.F ht2⟩) hS1.2.2 dL_value_18
    · refine vx_catch (name := eIS) hown [⟨0, 12, 15, 13⟩] ⟨0, 12, 19, 15⟩ [] (hT.trans rfl) (fun z hz => Or.inr ?_) rfl (by decide) (hts _ cl_RL_15) (va_Nw.use rfl (hE.2.1 (eIS, eIS) (by decide +kernel))) hce hcv hcl ?_
      · rw [List.mem_singleton.mp hz]
        exact ⟨by decide, _, hts _ cl_RL_13, hE.2.2.2.1 (eIS, eIA) (by decide +kernel)⟩
      refine lv_astore B.exec B.bytes dL_value_19 hl (by decide) rfl (fun ls2 hl2 => ?_)
      refine lv_iconst (v := 2) B.exec B.bytes dL_value_21 (by decide) ?_
      exact W.zret (v := 2) B.exec B.bytes B.returns rfl (fun t2 ht2 hW2 => ⟨⟨2, (u, f), rfl, Or.inr (Or.inr ⟨hp, rfl, rfl⟩), ⟨by rw [ht2]; exact hP1, va_K.moved hW2.alike hK, hD1⟩, by rw [ht2]; exact hO1⟩, hS1.F ht2⟩) hS1.2.2 dL_value_22
  · obtain ⟨hP1, hK1, hD1⟩ := hB1
    rw [ht] at hP1
    have hO1 := lo_kept hO hk1 nO
    have hne1 : ∀ k, k < u.1 → u.2.1 k ≠ o := fun k hk e => nO (by rw [← e]; exact (phD.mp hD1).2 k hk)
    refine lv_i2l B.exec B.bytes dL_value_10 rfl ?_
    refine va_last (A := hA Y ad n S h o s.heap.size) (cl := vwCl) (tys := [(cL, .long)]) (ws := (o, .inl (cL, 1, .inr (.inl f))) :: ph_w u.1 Y.2 u.2.1 u.2.2.1 u.2.2.2) B.exec B.bytes hK2 (ph_cons hO1 hP1) (ph_consD (Or.inr rfl) (hD1.weaken (fun _ _ _ q => Or.inl q)) hne1) hS1 0 0 rfl rfl (iv_in (iv_lit (lo := 0) (hi := 0) (x := 0) rfl) rfl) dL_value_11 (fun H2 locs2 hP2 hD2 hS2 => ?_)
    have hP2 : va_P Y.1 vwCl ((o, .inl (cL, 1, .inr (.inl (vp_updL f (0 : Int32).toNatClampNeg r.toInt64)))) :: ph_w u.1 Y.2 u.2.1 u.2.2.1 u.2.2.2) H2 := hP2
    have hP3 : va_P Y.1 vwCl (ph_w u.1 Y.2 u.2.1 u.2.2.1 u.2.2.2) H2 := fun k q hq => hP2 (k + 1) q hq
    have hO3 : va_P Y.1 vwCl [(o, .inl (cL, 1, .inr (.inl (vp_updL f (0 : Int32).toNatClampNeg r.toInt64))))] H2 := fun k q hq => by
      have h1 : k < 1 := (List.getElem?_eq_some_iff.mp hq).1
      have e : k = 0 := by omega
      subst e
      exact hP2 0 q hq
    refine lv_goto (tgt := 23) B.exec B.bytes dL_value_12 (by decide) ?_
    refine lv_iconst (v := 0) B.exec B.bytes dL_value_23 (by decide) ?_
    exact W.zret (v := 0) B.exec B.bytes B.returns rfl (fun t2 ht2 hW2 => ⟨⟨0, (u, vp_updL f (0 : Int32).toNatClampNeg r.toInt64), rfl, Or.inl ⟨r, hp, rfl, rfl⟩, ⟨by rw [ht2]; exact hP3, va_K.moved hW2.alike hK, hD1⟩, by rw [ht2]; exact hO3⟩, hS2.F ht2⟩) hS2.2.2 dL_value_24
set_option maxRecDepth 100000 in
theorem HL_place {l0 : Launch} {Y : fj_Y} {cL : ClassId} {ad : Nat → Nat} {n : Nat} {S : ph_S} {h : ph_H} {o : Nat} {f : Nat → Int64} {a0 a1 : Int32} {pv : Int32 → gU → Prop} {px : String → gU → Prop} (hM : XM l0 yX11_place (.code yX11_place cX11_place 4 (some .int)) (mkR 6 1 6 143) Y ad n S h (.ref (ad 0) :: [.int a0, .int a1]) (gQi Y ad n S h pv) px) (hpx : ∀ E u, px E u → E = eIA ∨ E = eIS) (h0 : 0 < n) (hS0 : S 0 = .inr (.inl (10, 13, rfC_0))) : HM l0 yL_place (.codeWith yL_place cL_place 5 (some .int) [(0, 10, 13, 13), (0, 10, 17, 15)]) (mkR 7 1 6 166) Y cL ad n S h o f [.ref (ad 0), .int a0, .int a1, .ref o] (hPost pv px f) := by
  intro sz
  refine va_MetW (cc := cL_place) (maxL := 5) (ret := some .int) (hh := [(0, 10, 13, 13), (0, 10, 17, 15)]) (by decide) rfl ?_
  intro p e s m args below meth c s₁ B hml hv
  obtain ⟨rfl, hsz, ⟨hP, hK, hD0⟩, hE, hO, hK2, hne⟩ := hv
  subst hsz
  have hts0 := atoms_spec (ws := Cond.codeWith yL_place cL_place 5 (some .int) [(0, 10, 13, 13), (0, 10, 17, 15)] :: TW) B.pre
  have hts : ∀ w ∈ TW, w.before ([.ref (ad 0), .int a0, .int a1, .ref o] : List Value).toArray s = true := fun w hw => hts0 w (List.mem_cons_of_mem _ hw)
  have hown : s.vm.findClass RL = some m.cls := findClass_of_methodNamed B.named
  have hT : c.exceptionTable.toList = tableOf [(0, 10, 13, 13), (0, 10, 17, 15)] := vx_table (x := yL_place) B (hts0 _ List.mem_cons_self)
  have hl0 := lv_entry ([.ref (ad 0), .int a0, .int a1, .ref o] : List Value) (n := 5) (Nat.le_of_ble_eq_true rfl)
  rw [lg_entry_eq]
  suffices K : ∀ ls, lv_has ls 5 (lv_args 0 [.ref (ad 0), .int a0, .int a1, .ref o]) → W p l0 e (headSpec (Cond.codeWith yL_place cL_place 5 (some .int) [(0, 10, 13, 13), (0, 10, 17, 15)] :: TW) (mkR 7 1 6 166)).room s m ([.ref (ad 0), .int a0, .int a1, .ref o] : List Value).toArray below meth c s.heap [] 0 0 (MQ below (va_Qi (hPost pv px f) (hB Y cL ad n S h o s.heap.size) (hA Y ad n S h o s.heap.size)) ([.ref (ad 0), .int a0, .int a1, .ref o] : List Value).toArray s 1 6 (hA Y ad n S h o s.heap.size)) (F0 m 0 ls []) from K _ hl0
  intro ls hl
  have g : ∀ i v, lx_get (lv_args 0 [.ref (ad 0), .int a0, .int a1, .ref o]) i = some v → ls[i]? = some (.val v) := fun i v q => hl.2.2 _ (lx_get_mem q)
  refine lv_aload_n B.exec B.bytes dL_place_0 rfl (g 3 (.ref o) rfl) ?_
  refine lv_iconst (v := 0) B.exec B.bytes dL_place_1 (by decide) ?_
  refine lv_aload_n B.exec B.bytes dL_place_2 rfl (g 0 (.ref (ad 0)) rfl) ?_
  refine lv_iload_n B.exec B.bytes dL_place_3 rfl (g 1 (.int a0) rfl) ?_
  refine lv_iload_n B.exec B.bytes dL_place_4 rfl (g 2 (.int a1) rfl) ?_
  have hrc := va_recv hK hP (show vwCl[10]? = some (RX11, TX11, 13) from rfl) (q0 := 0) (a := ad 0) (fs := (List.range 13).map (ph_f ad rfC_0 (h 0))) (by rw [ph_at h0, hS0]; rfl)
  have nO : ¬ va_A (ph_w n Y.2 ad S h) s.heap.size o := fun z => by
    rcases phA.mp z with ⟨k, hk, e⟩ | z
    · exact hne k hk e.symm
    · exact absurd (lo_lt hO) (Nat.not_lt.mpr z)
  refine vx_calli (A0 := hA Y ad n S h o s.heap.size) (vx_runV (As := [.int a0, .int a1]) (rest := [.int 0, .ref o]) ⟨B.exec, B.bytes, hml, hown, hts⟩ (hM s.heap.size) ⟨(CKX11_place (rm := mkR 7 1 6 166) (by decide)).B hts lk_RL_17, hts _ in_X11_place, hts _ se_X11_place⟩ ⟨gPc_blind, hrc, fun U hU hW => ⟨rfl, by rw [hU], ⟨by rw [hU]; exact hP, va_K.moved hW.alike hK, hD0⟩, hE.warm (locs := []) hW (by rw [hU]; exact va_S.rf) (fun q hq => Or.inl hq)⟩⟩ rfl rfl hl.1 rfl (lv_room (Nat.le_of_ble_eq_true rfl)) dL_place_5 ⟨by decide, by decide⟩) va_S.rf (fun q _ hq => Or.inl hq) (fun q hq => Or.inl hq) (fun q _ hq => Or.inl hq) (fun Ex ce q9 u t H1 locs1 ht hvm _ hB1 hz1 hk1 hS1 hce hcv hcl => ?_) (fun r u t H1 locs1 ht hvm hp hB1 hz1 hk1 hS1 => ?_)
  · obtain ⟨hp, hP1, hK1, hD1⟩ := hB1
    rw [ht] at hP1
    have hO1 := lo_kept hO hk1 nO
    rcases hpx Ex u hp with rfl | rfl
    · refine vx_catch (name := eIA) hown [] ⟨0, 10, 13, 13⟩ [⟨0, 10, 17, 15⟩] (hT.trans rfl) (fun z hz => absurd hz List.not_mem_nil) rfl (by decide) (hts _ cl_RL_13) (va_Nw.use rfl (hE.2.1 (eIA, eIA) (by decide +kernel))) hce hcv hcl ?_
      refine lv_astore B.exec B.bytes dL_place_13 hl (by decide) rfl (fun ls2 hl2 => ?_)
      refine lv_iconst (v := 1) B.exec B.bytes dL_place_15 (by decide) ?_
      exact W.zret (v := 1) B.exec B.bytes B.returns rfl (fun t2 ht2 hW2 => ⟨⟨1, (u, f), rfl, Or.inr (Or.inl ⟨hp, rfl, rfl⟩), ⟨by rw [ht2]; exact hP1, va_K.moved hW2.alike hK, hD1⟩, by rw [ht2]; exact hO1⟩, hS1.F ht2⟩) hS1.2.2 dL_place_16
    · refine vx_catch (name := eIS) hown [⟨0, 10, 13, 13⟩] ⟨0, 10, 17, 15⟩ [] (hT.trans rfl) (fun z hz => Or.inr ?_) rfl (by decide) (hts _ cl_RL_15) (va_Nw.use rfl (hE.2.1 (eIS, eIS) (by decide +kernel))) hce hcv hcl ?_
      · rw [List.mem_singleton.mp hz]
        exact ⟨by decide, _, hts _ cl_RL_13, hE.2.2.2.1 (eIS, eIA) (by decide +kernel)⟩
      refine lv_astore B.exec B.bytes dL_place_17 hl (by decide) rfl (fun ls2 hl2 => ?_)
      refine lv_iconst (v := 2) B.exec B.bytes dL_place_19 (by decide) ?_
      exact W.zret (v := 2) B.exec B.bytes B.returns rfl (fun t2 ht2 hW2 => ⟨⟨2, (u, f), rfl, Or.inr (Or.inr ⟨hp, rfl, rfl⟩), ⟨by rw [ht2]; exact hP1, va_K.moved hW2.alike hK, hD1⟩, by rw [ht2]; exact hO1⟩, hS1.F ht2⟩) hS1.2.2 dL_place_20
  · obtain ⟨hP1, hK1, hD1⟩ := hB1
    rw [ht] at hP1
    have hO1 := lo_kept hO hk1 nO
    have hne1 : ∀ k, k < u.1 → u.2.1 k ≠ o := fun k hk e => nO (by rw [← e]; exact (phD.mp hD1).2 k hk)
    refine lv_i2l B.exec B.bytes dL_place_8 rfl ?_
    refine va_last (A := hA Y ad n S h o s.heap.size) (cl := vwCl) (tys := [(cL, .long)]) (ws := (o, .inl (cL, 1, .inr (.inl f))) :: ph_w u.1 Y.2 u.2.1 u.2.2.1 u.2.2.2) B.exec B.bytes hK2 (ph_cons hO1 hP1) (ph_consD (Or.inr rfl) (hD1.weaken (fun _ _ _ q => Or.inl q)) hne1) hS1 0 0 rfl rfl (iv_in (iv_lit (lo := 0) (hi := 0) (x := 0) rfl) rfl) dL_place_9 (fun H2 locs2 hP2 hD2 hS2 => ?_)
    have hP2 : va_P Y.1 vwCl ((o, .inl (cL, 1, .inr (.inl (vp_updL f (0 : Int32).toNatClampNeg r.toInt64)))) :: ph_w u.1 Y.2 u.2.1 u.2.2.1 u.2.2.2) H2 := hP2
    have hP3 : va_P Y.1 vwCl (ph_w u.1 Y.2 u.2.1 u.2.2.1 u.2.2.2) H2 := fun k q hq => hP2 (k + 1) q hq
    have hO3 : va_P Y.1 vwCl [(o, .inl (cL, 1, .inr (.inl (vp_updL f (0 : Int32).toNatClampNeg r.toInt64))))] H2 := fun k q hq => by
      have h1 : k < 1 := (List.getElem?_eq_some_iff.mp hq).1
      have e : k = 0 := by omega
      subst e
      exact hP2 0 q hq
    refine lv_goto (tgt := 21) B.exec B.bytes dL_place_10 (by decide) ?_
    refine lv_iconst (v := 0) B.exec B.bytes dL_place_21 (by decide) ?_
    exact W.zret (v := 0) B.exec B.bytes B.returns rfl (fun t2 ht2 hW2 => ⟨⟨0, (u, vp_updL f (0 : Int32).toNatClampNeg r.toInt64), rfl, Or.inl ⟨r, hp, rfl, rfl⟩, ⟨by rw [ht2]; exact hP3, va_K.moved hW2.alike hK, hD1⟩, by rw [ht2]; exact hO3⟩, hS2.F ht2⟩) hS2.2.2 dL_place_22
set_option maxRecDepth 100000 in
theorem HL_element {l0 : Launch} {Y : fj_Y} {cL : ClassId} {ad : Nat → Nat} {n : Nat} {S : ph_S} {h : ph_H} {o : Nat} {f : Nat → Int64} {a0 a1 : Int32} {pv : Int32 → gU → Prop} {px : String → gU → Prop} (hM : XM l0 yX11_element (.code yX11_element cX11_element 4 (some .int)) (mkR 6 1 6 90) Y ad n S h (.ref (ad 0) :: [.int a0, .int a1]) (gQi Y ad n S h pv) px) (hpx : ∀ E u, px E u → E = eIA ∨ E = eIS) (h0 : 0 < n) (hS0 : S 0 = .inr (.inl (10, 13, rfC_0))) : HM l0 yL_element (.codeWith yL_element cL_element 5 (some .int) [(0, 10, 13, 13), (0, 10, 17, 15)]) (mkR 7 1 6 113) Y cL ad n S h o f [.ref (ad 0), .int a0, .int a1, .ref o] (hPost pv px f) := by
  intro sz
  refine va_MetW (cc := cL_element) (maxL := 5) (ret := some .int) (hh := [(0, 10, 13, 13), (0, 10, 17, 15)]) (by decide) rfl ?_
  intro p e s m args below meth c s₁ B hml hv
  obtain ⟨rfl, hsz, ⟨hP, hK, hD0⟩, hE, hO, hK2, hne⟩ := hv
  subst hsz
  have hts0 := atoms_spec (ws := Cond.codeWith yL_element cL_element 5 (some .int) [(0, 10, 13, 13), (0, 10, 17, 15)] :: TW) B.pre
  have hts : ∀ w ∈ TW, w.before ([.ref (ad 0), .int a0, .int a1, .ref o] : List Value).toArray s = true := fun w hw => hts0 w (List.mem_cons_of_mem _ hw)
  have hown : s.vm.findClass RL = some m.cls := findClass_of_methodNamed B.named
  have hT : c.exceptionTable.toList = tableOf [(0, 10, 13, 13), (0, 10, 17, 15)] := vx_table (x := yL_element) B (hts0 _ List.mem_cons_self)
  have hl0 := lv_entry ([.ref (ad 0), .int a0, .int a1, .ref o] : List Value) (n := 5) (Nat.le_of_ble_eq_true rfl)
  rw [lg_entry_eq]
  suffices K : ∀ ls, lv_has ls 5 (lv_args 0 [.ref (ad 0), .int a0, .int a1, .ref o]) → W p l0 e (headSpec (Cond.codeWith yL_element cL_element 5 (some .int) [(0, 10, 13, 13), (0, 10, 17, 15)] :: TW) (mkR 7 1 6 113)).room s m ([.ref (ad 0), .int a0, .int a1, .ref o] : List Value).toArray below meth c s.heap [] 0 0 (MQ below (va_Qi (hPost pv px f) (hB Y cL ad n S h o s.heap.size) (hA Y ad n S h o s.heap.size)) ([.ref (ad 0), .int a0, .int a1, .ref o] : List Value).toArray s 1 6 (hA Y ad n S h o s.heap.size)) (F0 m 0 ls []) from K _ hl0
  intro ls hl
  have g : ∀ i v, lx_get (lv_args 0 [.ref (ad 0), .int a0, .int a1, .ref o]) i = some v → ls[i]? = some (.val v) := fun i v q => hl.2.2 _ (lx_get_mem q)
  refine lv_aload_n B.exec B.bytes dL_element_0 rfl (g 3 (.ref o) rfl) ?_
  refine lv_iconst (v := 0) B.exec B.bytes dL_element_1 (by decide) ?_
  refine lv_aload_n B.exec B.bytes dL_element_2 rfl (g 0 (.ref (ad 0)) rfl) ?_
  refine lv_iload_n B.exec B.bytes dL_element_3 rfl (g 1 (.int a0) rfl) ?_
  refine lv_iload_n B.exec B.bytes dL_element_4 rfl (g 2 (.int a1) rfl) ?_
  have hrc := va_recv hK hP (show vwCl[10]? = some (RX11, TX11, 13) from rfl) (q0 := 0) (a := ad 0) (fs := (List.range 13).map (ph_f ad rfC_0 (h 0))) (by rw [ph_at h0, hS0]; rfl)
  have nO : ¬ va_A (ph_w n Y.2 ad S h) s.heap.size o := fun z => by
    rcases phA.mp z with ⟨k, hk, e⟩ | z
    · exact hne k hk e.symm
    · exact absurd (lo_lt hO) (Nat.not_lt.mpr z)
  refine vx_calli (A0 := hA Y ad n S h o s.heap.size) (vx_runV (As := [.int a0, .int a1]) (rest := [.int 0, .ref o]) ⟨B.exec, B.bytes, hml, hown, hts⟩ (hM s.heap.size) ⟨(CKX11_element (rm := mkR 7 1 6 113) (by decide)).B hts lk_RL_21, hts _ in_X11_element, hts _ se_X11_element⟩ ⟨gPc_blind, hrc, fun U hU hW => ⟨rfl, by rw [hU], ⟨by rw [hU]; exact hP, va_K.moved hW.alike hK, hD0⟩, hE.warm (locs := []) hW (by rw [hU]; exact va_S.rf) (fun q hq => Or.inl hq)⟩⟩ rfl rfl hl.1 rfl (lv_room (Nat.le_of_ble_eq_true rfl)) dL_element_5 ⟨by decide, by decide⟩) va_S.rf (fun q _ hq => Or.inl hq) (fun q hq => Or.inl hq) (fun q _ hq => Or.inl hq) (fun Ex ce q9 u t H1 locs1 ht hvm _ hB1 hz1 hk1 hS1 hce hcv hcl => ?_) (fun r u t H1 locs1 ht hvm hp hB1 hz1 hk1 hS1 => ?_)
  · obtain ⟨hp, hP1, hK1, hD1⟩ := hB1
    rw [ht] at hP1
    have hO1 := lo_kept hO hk1 nO
    rcases hpx Ex u hp with rfl | rfl
    · refine vx_catch (name := eIA) hown [] ⟨0, 10, 13, 13⟩ [⟨0, 10, 17, 15⟩] (hT.trans rfl) (fun z hz => absurd hz List.not_mem_nil) rfl (by decide) (hts _ cl_RL_13) (va_Nw.use rfl (hE.2.1 (eIA, eIA) (by decide +kernel))) hce hcv hcl ?_
      refine lv_astore B.exec B.bytes dL_element_13 hl (by decide) rfl (fun ls2 hl2 => ?_)
      refine lv_iconst (v := 1) B.exec B.bytes dL_element_15 (by decide) ?_
      exact W.zret (v := 1) B.exec B.bytes B.returns rfl (fun t2 ht2 hW2 => ⟨⟨1, (u, f), rfl, Or.inr (Or.inl ⟨hp, rfl, rfl⟩), ⟨by rw [ht2]; exact hP1, va_K.moved hW2.alike hK, hD1⟩, by rw [ht2]; exact hO1⟩, hS1.F ht2⟩) hS1.2.2 dL_element_16
    · refine vx_catch (name := eIS) hown [⟨0, 10, 13, 13⟩] ⟨0, 10, 17, 15⟩ [] (hT.trans rfl) (fun z hz => Or.inr ?_) rfl (by decide) (hts _ cl_RL_15) (va_Nw.use rfl (hE.2.1 (eIS, eIS) (by decide +kernel))) hce hcv hcl ?_
      · rw [List.mem_singleton.mp hz]
        exact ⟨by decide, _, hts _ cl_RL_13, hE.2.2.2.1 (eIS, eIA) (by decide +kernel)⟩
      refine lv_astore B.exec B.bytes dL_element_17 hl (by decide) rfl (fun ls2 hl2 => ?_)
      refine lv_iconst (v := 2) B.exec B.bytes dL_element_19 (by decide) ?_
      exact W.zret (v := 2) B.exec B.bytes B.returns rfl (fun t2 ht2 hW2 => ⟨⟨2, (u, f), rfl, Or.inr (Or.inr ⟨hp, rfl, rfl⟩), ⟨by rw [ht2]; exact hP1, va_K.moved hW2.alike hK, hD1⟩, by rw [ht2]; exact hO1⟩, hS1.F ht2⟩) hS1.2.2 dL_element_20
  · obtain ⟨hP1, hK1, hD1⟩ := hB1
    rw [ht] at hP1
    have hO1 := lo_kept hO hk1 nO
    have hne1 : ∀ k, k < u.1 → u.2.1 k ≠ o := fun k hk e => nO (by rw [← e]; exact (phD.mp hD1).2 k hk)
    refine lv_i2l B.exec B.bytes dL_element_8 rfl ?_
    refine va_last (A := hA Y ad n S h o s.heap.size) (cl := vwCl) (tys := [(cL, .long)]) (ws := (o, .inl (cL, 1, .inr (.inl f))) :: ph_w u.1 Y.2 u.2.1 u.2.2.1 u.2.2.2) B.exec B.bytes hK2 (ph_cons hO1 hP1) (ph_consD (Or.inr rfl) (hD1.weaken (fun _ _ _ q => Or.inl q)) hne1) hS1 0 0 rfl rfl (iv_in (iv_lit (lo := 0) (hi := 0) (x := 0) rfl) rfl) dL_element_9 (fun H2 locs2 hP2 hD2 hS2 => ?_)
    have hP2 : va_P Y.1 vwCl ((o, .inl (cL, 1, .inr (.inl (vp_updL f (0 : Int32).toNatClampNeg r.toInt64)))) :: ph_w u.1 Y.2 u.2.1 u.2.2.1 u.2.2.2) H2 := hP2
    have hP3 : va_P Y.1 vwCl (ph_w u.1 Y.2 u.2.1 u.2.2.1 u.2.2.2) H2 := fun k q hq => hP2 (k + 1) q hq
    have hO3 : va_P Y.1 vwCl [(o, .inl (cL, 1, .inr (.inl (vp_updL f (0 : Int32).toNatClampNeg r.toInt64))))] H2 := fun k q hq => by
      have h1 : k < 1 := (List.getElem?_eq_some_iff.mp hq).1
      have e : k = 0 := by omega
      subst e
      exact hP2 0 q hq
    refine lv_goto (tgt := 21) B.exec B.bytes dL_element_10 (by decide) ?_
    refine lv_iconst (v := 0) B.exec B.bytes dL_element_21 (by decide) ?_
    exact W.zret (v := 0) B.exec B.bytes B.returns rfl (fun t2 ht2 hW2 => ⟨⟨0, (u, vp_updL f (0 : Int32).toNatClampNeg r.toInt64), rfl, Or.inl ⟨r, hp, rfl, rfl⟩, ⟨by rw [ht2]; exact hP3, va_K.moved hW2.alike hK, hD1⟩, by rw [ht2]; exact hO3⟩, hS2.F ht2⟩) hS2.2.2 dL_element_22
