/-! worlds place by place; calls with fewer places; calls of methods that throw -/
theorem phP {D : va_G} {n : Nat} {cA : Nat → ClassId} {ad : Nat → Nat} {S : ph_S} {h : ph_H} {H : Heap} : va_P D vwCl (ph_w n cA ad S h) H ↔ ∀ k, k < n → va_at D vwCl (ad k, ph_e cA ad (S k) (h k)) H := by
  refine ⟨fun q k hk => q k _ (ph_at hk), fun q k x hx => ?_⟩
  have hl : k < (ph_w n cA ad S h).length := (List.getElem?_eq_some_iff.mp hx).1
  have hk : k < n := by
    unfold ph_w at hl
    simpa using hl
  rw [ph_at hk] at hx
  cases hx
  exact q k hk
theorem phD {A : Nat → Prop} {n : Nat} {cA : Nat → ClassId} {ad : Nat → Nat} {S : ph_S} {h : ph_H} : va_D A (ph_w n cA ad S h) ↔ (∀ i j, i < n → j < n → ad i = ad j → i = j) ∧ ∀ k, k < n → A (ad k) := by
  have lt : ∀ {k : Nat} {x : Nat × va_E}, (ph_w n cA ad S h)[k]? = some x → k < n ∧ x = (ad k, ph_e cA ad (S k) (h k)) := fun {k x} hx => by
    have hl : k < (ph_w n cA ad S h).length := (List.getElem?_eq_some_iff.mp hx).1
    have hk : k < n := by
      unfold ph_w at hl
      simpa using hl
    rw [ph_at hk] at hx
    exact ⟨hk, (Option.some.inj hx).symm⟩
  refine ⟨fun q => ⟨fun i j hi hj e => q.1 i j _ _ (ph_at hi) (ph_at hj) e, fun k hk => q.2 k _ (ph_at hk)⟩, fun q => ⟨fun i j x y hx hy e => ?_, fun k x hx => ?_⟩⟩
  · obtain ⟨hi, rfl⟩ := lt hx
    obtain ⟨hj, rfl⟩ := lt hy
    exact q.1 i j hi hj e
  · obtain ⟨hk, rfl⟩ := lt hx
    exact q.2 k hk
theorem phA {n sz : Nat} {cA : Nat → ClassId} {ad : Nat → Nat} {S : ph_S} {h : ph_H} {q : Nat} : va_A (ph_w n cA ad S h) sz q ↔ (∃ k, k < n ∧ q = ad k) ∨ sz ≤ q := by
  refine ⟨fun z => ?_, fun z => ?_⟩
  · rcases z with ⟨k, e, z⟩ | z
    · have hl : k < (ph_w n cA ad S h).length := (List.getElem?_eq_some_iff.mp z).1
      have hk : k < n := by
        unfold ph_w at hl
        simpa using hl
      rw [ph_at hk] at z
      exact Or.inl ⟨k, hk, (congrArg Prod.fst (Option.some.inj z)).symm⟩
    · exact Or.inr z
  · rcases z with ⟨k, hk, rfl⟩ | z
    · exact va_A.in (ph_at hk)
    · exact Or.inr z
/-- the numbers of the first places from h', of the others from h -/
def hcut (m : Nat) (h' h : ph_H) : ph_H := fun k => if k < m then h' k else h k
theorem hcut_lt {m k : Nat} {h' h : ph_H} (q : k < m) : hcut m h' h k = h' k := if_pos q
theorem hcut_ge {m k : Nat} {h' h : ph_H} (q : m ≤ k) : hcut m h' h k = h k := if_neg (by omega)
/-- behind a method that worked on the first m places -/
theorem cut_join {D : va_G} {A : Nat → Prop} {m n : Nat} {cA : Nat → ClassId} {ad : Nat → Nat} {S S' : ph_S} {h h' : ph_H} {H H1 : Heap} (hmn : m ≤ n) (hP : va_P D vwCl (ph_w n cA ad S h) H) (hD : va_D A (ph_w n cA ad S h)) (hP1 : va_P D vwCl (ph_w m cA ad S' h') H1) (hk : ∀ q : Nat, q < H.size → ¬ va_A (ph_w m cA ad S h) H.size q → H1[q]? = H[q]?) (hS : ∀ k, m ≤ k → S' k = S k) : va_P D vwCl (ph_w n cA ad S' (hcut m h' h)) H1 ∧ va_D A (ph_w n cA ad S' (hcut m h' h)) := by
  have d := phD.mp hD
  have p := phP.mp hP
  have p1 := phP.mp hP1
  refine ⟨phP.mpr (fun k hk' => ?_), phD.mpr d⟩
  by_cases q : k < m
  · rw [hcut_lt q]
    exact p1 k q
  · have lt : ad k < H.size := (p k hk').lt
    rw [hcut_ge (by omega), hS k (by omega)]
    refine (p k hk').kept (hk (ad k) lt (fun z => ?_))
    rcases phA.mp z with ⟨j, hj, e⟩ | z
    · have := d.1 k j hk' (by omega) e
      omega
    · omega
section XC
variable {X : fj_X} {Y : fj_Y} {l0 : Launch} {cc : ByteArray} {nL : Nat} {own : String} {rm : Room} {mc ms : Nat} {ret : Option FieldType} {ad : Nat → Nat} {n : Nat} {S : ph_S} {h : ph_H} {pc : Nat} {lv : List (Nat × Value)} {stk st : List Value}
variable {y : MethodName} {c2 : ByteArray} {maxL2 ix : Nat} {ret2 : Option FieldType} {rm2 : Room} {av : List Value} {Qc : Nat → Array Value → State → Outcome → State → Prop}
/-- a method that returns a place, on the first m places alone -/
theorem j_callVrm (C : FC X Y l0 cc nL own rm mc ms ret) {m k0 ci nf kr : Nat} {rf : Nat → Option (Option Nat)} {T : u_T} {h1 : ph_H} (hmn : m ≤ n) (hM : MR l0 y c2 maxL2 ret2 rm2 Y ad m S h (.ref (ad k0) :: av) kr (fun S' h' => S' = S ∧ h' = h1)) (hd : decode cc pc = .ok (.invokevirtual ix, 3)) (hk : CK rm y c2 maxL2 ret2 rm2 av.length) (h0 : rm2.cells = 0 ∧ rm2.slots = 0) (hlink : Cond.methodLink own ix y ∈ TW) (hins : Cond.instanceMethod y ∈ TW) (hsel : Cond.selects y.cls y y ∈ TW) (hk0 : k0 < n) (hS0 : S k0 = .inr (.inl (ci, nf, rf))) (hcl : vwCl[ci]? = some (y.cls, T, nf)) (hstk : stk = av.reverse ++ .ref (ad k0) :: st) (hroom : (st.map fun v => v.category).sum ≤ 8) (kk : FJ X Y ad n S (hcut m h1 h) (pc + 3) lv (.ref (ad kr) :: st)) : FJ X Y ad n S h pc lv stk := by
  obtain ⟨⟨p, l, e, R⟩, ⟨s, m', args, below, meth, c⟩, ⟨cells, slots, Q⟩, ⟨nL', A⟩⟩ := X
  obtain ⟨G, cA⟩ := Y
  obtain ⟨hx, hb, hml, hown, hts, hK, hlk, hR, hce, hsl, hnl, hret, htr, hmc, hms, hA⟩ := C
  subst hstk hR hce hsl hnl htr
  intro H locs ls hP hD hS hl
  have hP0 : va_P G vwCl (ph_w m cA ad S h) H := phP.mpr (fun k hk => phP.mp hP k (by omega))
  have hD0 : va_D A (ph_w m cA ad S h) := phD.mpr ⟨fun i j hi hj q => (phD.mp hD).1 i j (by omega) (by omega) q, fun k hk => (phD.mp hD).2 k (by omega)⟩
  have hFc := gFc (G := G) hD0 hS hA
  have hrc := va_recv hK hP hcl (q0 := k0) (a := ad k0) (fs := (List.range nf).map (ph_f ad rf (h k0))) (by rw [ph_at hk0, hS0]; rfl)
  refine va_callq (va_runV (As := av) (rest := st) ⟨hx, hb, hml, hown, hts⟩ (hM H.size) ⟨hk.B hts hlink, hts _ hins, hts _ hsel⟩ ⟨wPc_blind, hrc, fun U hU hW => ⟨rfl, by rw [hU], by rw [hU]; exact hP0, va_K.moved hW.alike hK, hD0.weaken (fun _ _ _ _ => trivial)⟩⟩ rfl rfl hl.1 rfl (lv_room hroom) hd ⟨by rw [h0.1]; exact hmc, by rw [h0.2]; exact hms⟩) hS (fun q _ hq => hFc q hq) hFc (fun r u t H1 locs1 ht hvm hp hB hz1 hk1 hS1 => ?_)
  obtain ⟨hP1, hK1, hD1⟩ := hB
  obtain ⟨hr, e1, e2⟩ := hp
  rw [ht, e1, e2] at hP1
  rw [h0.1, h0.2, hr]
  obtain ⟨j1, j2⟩ := cut_join hmn hP hD hP1 hk1 (fun _ _ => rfl)
  exact kk H1 locs1 ls j1 j2 hS1 hl
end XC
section XU
variable {p : Program} {l : Launch} {e : Env} {R : Room} {s : State} {m : MethodId} {args : Array Value} {below : List Frame} {meth : Method} {c : Code} {H : Heap} {locs : List Loc} {cells slots : Nat}
/-- a call through a superclass's method of one that may throw: va_callVU and vx_callV in one -/
theorem xx_runU {x y : MethodName} {bytes cc : ByteArray} {maxL nL mc ms n index : Nat} {ret : Option FieldType} {ws : List Cond} {rm : Room} {Pc : Array Value → State → Prop} {Qc : Array Value → State → Outcome → State → Prop} {XC : String → State → State → Prop} {free : Addr → Prop} {Ts : List Cond} {own C owner : String} {b : Addr} {As rest : List Value} {g : JFrame}
    (S : CallFix p m c cc nL s args Ts own) (hM : vx_Met l y ws rm Pc Qc XC mc ms free) (cw : va_CU R s args own C owner index x y bytes maxL ret ws rm mc ms n) (hp : PreV s H C b Pc As)
    (hg : g.method = m) (hn : As.length = n) (hsize : g.locals.size = nL) (hstack : g.stack = As.reverse ++ .ref b :: rest) (hW : 2 * g.monitorRoom + (rest.map fun v => v.category).sum ≤ 8) (hdg : decode cc g.pc = .ok (.invokevirtual index, 3)) (hf : cells + mc ≤ R.cells ∧ slots + ms ≤ R.slots) :
    vx_Run p l e R s m args below meth c H locs cells slots mc ms g rest (Qc (Value.ref b :: As).toArray) XC free := by
  obtain ⟨hrc, hrs, hfr, hlo, hws, hcw⟩ := cw.back
  have hini := cw.init
  have hK : vx_Back l R p e below s args y 3 8 (PreOf R mc ms Pc) (PostOf Qc mc ms free) (vx_Post XC mc ms free) := vx_back (bytes := bytes) (maxL := maxL) (ret := ret) hM hp.1 hrc hrs hfr hlo hws hcw (fun a' U hW => word_at hW (Or.inl (by first | rfl | simp [Cond.onTables, Cond.keeps, Cond.steady])) hini)
  obtain ⟨hx, hb, hml, ho, -⟩ := S
  obtain ⟨-, ⟨cellB, hcB, hoB, hclB⟩, hPc⟩ := hp
  intro T hT X
  obtain ⟨r0, r, hn0, hrm, hstR, hsigR⟩ := cw.decl
  obtain ⟨cn, ck, r1, hcn, hck, hni, hfd, hn1⟩ := Cond.sameMethod_found cw.same
  cases hn0.symm.trans hn1
  obtain ⟨mk, methM, hnamed, hmethM, -, habM⟩ := Cond.instanceMethod_spec cw.inst
  obtain ⟨c2, r2, m2, q1, q2, q3, q4, kP, hkP, hkPi⟩ := Cond.selects_spec cw.sel
  cases hclB.symm.trans q1
  cases hfd.symm.trans q2
  cases hnamed.symm.trans q3
  have hselP : selectMethod e.platform s.vm cellB.cls r0 = .method mk := by rw [Launch.admits_selectMethod X.admits]; exact q4
  obtain ⟨vm₁, X₁, hstep₁⟩ := X.invokevirtualUp hx ho cw.link cw.same cw.notMH hn0 hrm hstR (a := b) (cell := cellB) (by rw [hT]; exact hcB)
    (fun z h => by rw [h] at hoB; cases hoB) hselP hmethM habM hkP hkPi (g := g) hg (argsL := As) (rest := rest) (hn.trans (cw.len _ hsigR)) hstack (by rw [hb]; exact hdg)
  rcases hK m meth c ⟨T.setVm vm₁, locs, cells, slots⟩ { g with stack := rest } (.invokevirtual index) mk (Value.ref b :: As).toArray X₁ hg (hsize.trans hml.symm) (by rw [hb]; exact hdg) hW (X₁.named hnamed) ⟨hf.1, hf.2, hPc (T.setVm vm₁) hT X₁.warmed⟩ with ⟨v, ⟨U', l2, c3, s2⟩, X', ⟨g', mk', t, L, e1, e2, hq, h1, hL, h2, h3⟩, hsteps⟩ | ⟨q, ⟨U', l2, c3, s2⟩, X', ⟨g', mk', t, L, E, ce, e1, e2, hq, hce, hcv, hcl, h1, hL, h2, h3⟩, hsteps⟩
  · dsimp only [Pt.U, Pt.locs, Pt.cells, Pt.slots] at X' e1 e2 h1 h2 h3 hsteps
    subst h1; subst h2; subst h3
    exact Or.inl ⟨v, (T.setVm vm₁).calling g' mk' (Value.ref b :: As).toArray, t, U', L, hT, X', hL, e1, e2, hq, fun target h => hstep₁ _ fun acts => by rw [doInvoke_state]; exact hsteps.trans h⟩
  · dsimp only [Pt.U, Pt.locs, Pt.cells, Pt.slots] at X' e1 e2 h1 h2 h3 hsteps hcl
    subst h1; subst h2; subst h3
    exact Or.inr ⟨q, (T.setVm vm₁).calling g' mk' (Value.ref b :: As).toArray, t, U', L, E, ce, hT, X', hL, e1, e2, hq, hce, hcv, vx_cls X₁.warmed hcl, hstep₁ _ fun acts => by rw [doInvoke_state]; exact hsteps⟩
end XU
/-- the table of a method -/
def FT (X : fj_X) (hh : List (Nat × Nat × Nat × Nat)) : Prop := X.2.1.2.2.2.2.2.exceptionTable.toList = tableOf hh
/-- E, thrown at pc, is caught at hp -/
def Catch (hh : List (Nat × Nat × Nat × Nat)) (own : String) (pc : Nat) (E : String) (hp : Nat) : Prop := ∃ (pre : List ExceptionTableEntry) (x : ExceptionTableEntry) (suf : List ExceptionTableEntry) (nm : String), tableOf hh = pre ++ x :: suf ∧ (∀ z ∈ pre, z.catchType ≠ 0 ∧ ∃ nz : String, Cond.classLink own z.catchType nz ∈ TW ∧ (E, nz) ∈ enN) ∧ covers x pc = true ∧ x.catchType ≠ 0 ∧ x.handlerPc = hp ∧ Cond.classLink own x.catchType nm ∈ TW ∧ (E, nm) ∈ enC
section XR
variable {X : fj_X} {Y : fj_Y} {l0 : Launch} {cc : ByteArray} {nL : Nat} {own : String} {rm : Room} {mc ms : Nat} {ret : Option FieldType} {ad : Nat → Nat} {n : Nat} {S : ph_S} {h : ph_H} {pc : Nat} {lv : List (Nat × Value)} {stk st : List Value}
variable {y : MethodName} {c2 : ByteArray} {maxL2 ix : Nat} {ret2 : Option FieldType} {rm2 : Room} {av : List Value} {Qc : Nat → Array Value → State → Outcome → State → Prop} {px : String → gU → Prop}
theorem xr_U (C : FC X Y l0 cc nL own rm mc ms ret) (E : FE X) {x : MethodName} {Cn : String} {k0 ci nf : Nat} {rf : Nat → Option (Option Nat)} {T : u_T} (hM : XM l0 y (.code y c2 maxL2 ret2) rm2 Y ad n S h (.ref (ad k0) :: av) Qc px) (hd : decode cc pc = .ok (.invokevirtual ix, 3)) (hk : CK rm y c2 maxL2 ret2 rm2 av.length) (hf : mc + rm2.cells ≤ rm.cells ∧ ms + rm2.slots ≤ rm.slots) (hu : CU own ix x y Cn) (hk0 : k0 < n) (hS0 : S k0 = .inr (.inl (ci, nf, rf))) (hcl : vwCl[ci]? = some (Cn, T, nf)) (hstk : stk = av.reverse ++ .ref (ad k0) :: st) (hroom : (st.map fun v => v.category).sum ≤ 8) : XRun X Y ad n S h pc lv stk st rm2 (fun sz => Qc sz (Value.ref (ad k0) :: av).toArray) px := by
  obtain ⟨⟨p, l, e, R⟩, ⟨s, m, args, below, meth, c⟩, ⟨cells, slots, Q⟩, ⟨nL', A⟩⟩ := X
  obtain ⟨G, cA⟩ := Y
  obtain ⟨hx, hb, hml, hown, hts, hK, hlk, hR, hce, hsl, hnl, hret, htr, hmc, hms, hA⟩ := C
  subst hstk hR hce hsl hnl htr
  intro H locs ls hP hD hS hl
  have hrc := va_recv hK hP hcl (q0 := k0) (a := ad k0) (fs := (List.range nf).map (ph_f ad rf (h k0))) (by rw [ph_at hk0, hS0]; rfl)
  exact xx_runU (As := av) (rest := st) ⟨hx, hb, hml, hown, hts⟩ (hM H.size) (hk.Bu hu hts) ⟨gPc_blind, hrc, gPre E hP hK hD hS hA _⟩ rfl rfl hl.1 rfl (lv_room hroom) hd hf
/-- a void call whose throws are caught here -/
theorem j_xv (C : FC X Y l0 cc nL own rm mc ms ret) (E : FE X) {hh : List (Nat × Nat × Nat × Nat)} (T : FT X hh) {post : gU → Prop} {a : Array Value} (hr : XRun X Y ad n S h pc lv stk st rm2 (fun sz => gQv Y ad n S h post sz a) px) (kx : ∀ Ex u, px Ex u → ∃ hp, Catch hh own pc Ex hp ∧ ∀ q : Nat, FJ (xg X rm2.cells rm2.slots) Y u.2.1 u.1 u.2.2.1 u.2.2.2 hp lv [.ref q]) (kk : ∀ u, post u → FJ (xg X rm2.cells rm2.slots) Y u.2.1 u.1 u.2.2.1 u.2.2.2 (pc + 3) lv st) : FJ X Y ad n S h pc lv stk := by
  obtain ⟨⟨p, l, e, R⟩, ⟨s, m, args, below, meth, c⟩, ⟨cells, slots, Q⟩, ⟨nL', A⟩⟩ := X
  obtain ⟨G, cA⟩ := Y
  obtain ⟨hx, hb, hml, hown, hts, hK, hlk, hR, hce, hsl, hnl, hret, htr, hmc, hms, hA⟩ := C
  intro H locs ls hP hD hS hl
  have hFc := gFc (G := G) hD hS hA
  refine vx_callv (hr H locs ls hP hD hS hl) hS (fun q _ hq => hFc q hq) hFc (fun q _ hq => hFc q hq) (fun Ex ce q9 u t H1 locs1 ht hvm _ hB hz1 hk1 hS1 hce' hcv hcl => ?_) (fun u t H1 locs1 ht hvm hp hB hz1 hk1 hS1 => ?_)
  · obtain ⟨hp, hP1, hK1, hD1⟩ := hB
    rw [ht] at hP1
    obtain ⟨hp', ⟨pre, x, suf, nm, h1, h2, h3, h4, h5, h6, h7⟩, kc⟩ := kx Ex u hp
    refine vx_catch (name := nm) hown pre x suf (T.trans h1) (fun z hz => Or.inr ⟨(h2 z hz).1, ?_⟩) h3 h4 (hts _ h6) (va_Nw.use rfl (E.2.1 _ h7)) hce' hcv hcl ?_
    · obtain ⟨nz, g1, g2⟩ := (h2 z hz).2
      exact ⟨nz, hts _ g1, E.2.2.2.1 _ g2⟩
    · rw [h5]
      exact kc q9 H1 locs1 ls hP1 (hD1.weaken (fun _ _ _ hq => hFc _ hq)) hS1 hl
  · obtain ⟨hP1, hK1, hD1⟩ := hB
    rw [ht] at hP1
    exact kk u hp H1 locs1 ls hP1 (hD1.weaken (fun _ _ _ hq => hFc _ hq)) hS1 hl
/-- a static call of a method with a table -/
theorem gr_SW (C : FC X Y l0 cc nL own rm mc ms ret) (E : FE X) {hh : List (Nat × Nat × Nat × Nat)} (hM : GM l0 y (.codeWith y c2 maxL2 ret2 hh) rm2 Y ad n S h av Qc) (hd : decode cc pc = .ok (.invokestatic ix, 3)) (hcode : Cond.codeWith y c2 maxL2 ret2 hh ∈ TW) (hini : Cond.initialized y.cls ∈ TW) (hy : y.cls ≠ "java/lang/invoke/MethodHandle" ∧ y.cls ≠ "java/lang/invoke/VarHandle") (hk : (parseMethodDescriptor y.desc).map (fun d => d.parameters.length) = some av.length) (hf : mc + rm2.cells ≤ rm.cells ∧ ms + rm2.slots ≤ rm.slots) (hfr : rm2.frames + 1 ≤ rm.frames ∧ 8 + (maxL2 + 11) + rm2.locals ≤ rm.locals) (hlink : Cond.methodLink own ix y ∈ TW) (hst : Cond.static y ∈ TW) (hstk : stk = av.reverse ++ st) (hroom : (st.map fun v => v.category).sum ≤ 8) : GRun X Y ad n S h pc lv stk st rm2 (fun sz => Qc sz av.toArray) := by
  obtain ⟨⟨p, l, e, R⟩, ⟨s, m, args, below, meth, c⟩, ⟨cells, slots, Q⟩, ⟨nL', A⟩⟩ := X
  obtain ⟨G, cA⟩ := Y
  obtain ⟨hx, hb, hml, hown, hts, hK, hlk, hR, hce, hsl, hnl, hret, htr, hmc, hms, hA⟩ := C
  subst hstk hR hce hsl hnl htr
  intro H locs ls hP hD hS hl
  refine vx_runSW (hh := hh) (bytes := c2) (maxL := maxL2) (ret := ret2) (As := av) (rest := st) ⟨hx, hb, hml, hown, hts⟩ (hM H.size) ⟨⟨rfl, rfl, hfr.1, hfr.2, pay_in (big := TW) hts (fun w hw => ?_), List.mem_cons_self⟩, hts _ hcode, hts _ hini, hy, fun sig hs => ?_, hts _ hlink, hts _ hst⟩ ⟨gPc_blind, gPre E hP hK hD hS hA _⟩ rfl rfl hl.1 rfl (lv_room hroom) hd hf
  · rcases List.mem_cons.mp hw with e | e
    · rw [e]; exact TW_good _ hcode
    · exact TW_good _ e
  · rw [hs] at hk
    exact (Option.some.inj hk).symm
end XR
/-- an int method with a table that throws nothing -/
theorem met_giW {l : Launch} {y : MethodName} {cc : ByteArray} {maxL : Nat} {ty : FieldType} {rm : Room} {Y : fj_Y} {ad : Nat → Nat} {n : Nat} {S : ph_S} {h : ph_H} {av : List Value} {hh : List (Nat × Nat × Nat × Nat)} {post : Int32 → gU → Prop} (hy : plainName y.cls = true) (hav : (lg_sl av).length ≤ maxL) (hn : ∀ r u, post r u → narrow ty (.int r) = .int r)
    (body : ∀ X : fj_X, FC X Y l cc maxL y.cls rm 0 0 (some ty) → FE X → FT X hh → (∀ r u a b, post r u → a ≤ rm.cells → b ≤ rm.slots → ∀ pc lv, decode cc pc = .ok (.ireturn, 1) → FJ (xg X a b) Y u.2.1 u.1 u.2.2.1 u.2.2.2 pc lv [.int r]) → FJ X Y ad n S h 0 (lv_args 0 av) []) : GM l y (.codeWith y cc maxL (some ty) hh) rm Y ad n S h av (gQi Y ad n S h post) := by
  intro sz
  refine va_MetW (cc := cc) (maxL := maxL) (ret := some ty) (hh := hh) hy rfl ?_
  intro p e s m args below meth c s₁ B hml hv
  obtain ⟨rfl, hsz, ⟨hP, hK, hD0⟩, hE⟩ := hv
  subst hsz
  have hts := atoms_spec (ws := Cond.codeWith y cc maxL (some ty) hh :: TW) B.pre
  obtain ⟨G, cA⟩ := Y
  have hD := hD0.self (sz := s.heap.size)
  have hl := lv_entry av (n := maxL) hav
  have hT : c.exceptionTable.toList = tableOf hh := vx_table (x := y) B (hts _ List.mem_cons_self)
  rw [lg_entry_eq]
  refine body ((p, l, e, rm), (s, m, av.toArray, below, meth, c), (0, 0, _), (maxL, va_A (ph_w n cA ad S h) s.heap.size)) ⟨B.exec, B.bytes, hml, findClass_of_methodNamed B.named, fun w hw => hts w (List.mem_cons_of_mem _ hw), hK, B.notSynchronized, rfl, rfl, rfl, rfl, B.returns, rfl, Nat.zero_le _, Nat.zero_le _, fun q hq => Or.inr hq⟩ hE hT ?_ s.heap [] _ hP hD va_S.rf hl
  intro r u a b hp ha hb pc lv hd H locs ls hP' hD' hS' hl'
  refine W.widen (k := rm.cells) (n := rm.slots) (by show 0 + a ≤ _; omega) (by show 0 + b ≤ _; omega) ?_
  exact W.zret (v := r) B.exec B.bytes B.returns (hn r u hp) (fun t ht hW => ⟨⟨r, u, rfl, hp, by rw [ht]; exact hP', va_K.moved hW.alike hK, hD'⟩, hS'.F ht⟩) hS'.2.2 hd
