/-! the law's rows over what the class and the reference keep -/
theorem tC_hi {k i : Nat} (q : 60 ≤ k) : tC k i = (-2147483648, 2147483647) := by
  unfold tC
  split <;> first | omega | rfl
theorem gc_hi {k i : Nat} (q : 60 ≤ k) : gc k i = false := by
  unfold gc
  split <;> first | omega | rfl
theorem IC_low {z : zT} {h h' : ph_H} (I : IC z h) (e : ∀ k, k < 60 → h' k = h k) : IC z h' := by
  obtain ⟨i1, ⟨i2, i3, i4, i5⟩, i6⟩ := I
  refine ⟨fun k i => ?_, ⟨fun i => ?_, fun i => ?_, ?_, fun i => ?_⟩, fun k i c => ?_⟩
  · by_cases q : k < 60
    · rw [e k q]
      exact i1 k i
    · rw [tC_hi (by omega)]
      exact iv_any _
  · rw [e 16 (by decide), e 17 (by decide)]
    exact i2 i
  · rw [e 26 (by decide), e 27 (by decide)]
    exact i3 i
  · unfold MSm
    rw [e 15 (by decide)]
    exact i4
  · rw [e 43 (by decide), e 44 (by decide)]
    exact i5 i
  · by_cases q : k < 60
    · rw [e k q]
      exact i6 k i c
    · rw [gc_hi (by omega)] at c
      exact absurd c (by decide)
theorem CT_low {z : zT} {h h' : ph_H} (I : CT z h) (e : ∀ k, k < 60 → h' k = h k) : CT z h' := by
  obtain ⟨z', m, i⟩ := I
  exact ⟨z', m, IC_low i e⟩
theorem Sp_W {pr n : Nat} {S S' : ph_S} (W : WS pr n S) (e : Sp S S') : ∃ pr', WS pr' n S' := by
  rcases e with rfl | rfl | rfl
  · exact ⟨pr, W⟩
  · exact ⟨1, spr_W W⟩
  · exact ⟨8, spr_W W⟩
theorem spr_ge {S : ph_S} {p k : Nat} (q : 26 ≤ k) : spr S p k = S k := va_up_ne _ _ (by omega)
theorem Sp_ge {S S' : ph_S} (e : Sp S S') {k : Nat} (q : 26 ≤ k) : S' k = S k := by
  rcases e with rfl | rfl | rfl
  · rfl
  · exact spr_ge q
  · exact spr_ge q
theorem rfO_lt {p n : Nat} (hp : p < 60) (hn : 60 ≤ n) : clE n (.inr (.inl (2, 18, rfO p))) := by
  show ∀ j r, rfO p j = some (some r) → r < n
  intro j r e
  unfold rfO at e
  by_cases q : j = 9
  · subst q
    rw [va_up_self] at e
    cases e
    omega
  · rw [va_up_ne _ _ q] at e
    unfold rfC_25 at e
    split at e <;> first | (cases e; omega) | cases e
theorem KS_sp {n : Nat} {S S' : ph_S} {h : ph_H} (hn : 60 ≤ n) (k : KS n S h) (e : Sp S S') : KS n S' h := by
  obtain ⟨⟨g, hg, ho⟩, hc, hb⟩ := k
  refine ⟨⟨g, (Sp_ge e (by decide)).trans hg, fun i p q => (ho i p q).mono (Nat.le_refl _) (fun k a _ => Sp_ge e (by omega))⟩, ?_, fun k len a b c i => hb k len a b ((Sp_ge e (by omega)).symm.trans c) i⟩
  rcases e with rfl | rfl | rfl
  · exact hc
  · exact hc.set (rfO_lt (by decide) hn)
  · exact hc.set (rfO_lt (by decide) hn)
/-- the places of the script that a turn of the loop reads -/
def LA (X : lj_X) (i : Int32) : Prop := ∀ v : Int32, iv 0 5 v → vp_in (i + v) X.2.2.2.1
abbrev la (X : lj_X) (i v : Int32) : Int32 := X.2.2.2.2 (i + v).toNatClampNeg
section LROW
variable {X : lj_X} {Y : fj_Y} {cL : ClassId} {w : lj_W} {cells slots : Nat} {pc : Nat} {lv : List (Nat × Value)} {stk st : List Value}
variable {y : MethodName} {c2 : ByteArray} {maxL2 ix : Nat} {ret2 : Option FieldType} {rm2 : Room} {av : List Value}
variable {n : Nat} {ad : Nat → Nat} {S : ph_S} {h : ph_H} {adm : Nat → Nat} {hm : ph_H} {o : Nat} {f : Nat → Int64} {pr : Nat}
theorem l_arg (C : LC X Y cL) {i v : Int32} {z : Int} (A : LA X i) (d0 : decode code pc = .ok (.aload_n 0, 1)) (d1 : decode code (pc + 1) = .ok (.iload 4, 2)) (d2 : decode code (pc + 3) = .ok (.iconst z, 1)) (d3 : decode code (pc + 4) = .ok (.iadd, 1)) (d4 : decode code (pc + 5) = .ok (.iaload, 1)) (hb : lx_get lv 0 = some (.ref (lb X))) (hi : lx_get lv 4 = some (.int i)) (hv : Int32.ofInt z = v) (h5 : (decide (0 ≤ v.toInt) && decide (v.toInt ≤ 5)) = true) (k : LJ X Y cL w cells slots (pc + 6) lv (.int (la X i v) :: st)) : LJ X Y cL w cells slots pc lv st := by
  refine l_aload_n C d0 rfl hb ?_
  refine l_iload C d1 hi ?_
  refine l_iconst C d2 hv ?_
  refine l_iadd C d3 ?_
  exact l_sld C d4 (A v (iv_lit h5)) rfl k
theorem l_C (C : LC X Y cL) {post : Int32 → ph_S → ph_H → Prop} {R : Int32 → ph_H → Prop} (hM : MI X.1.2.1 y c2 maxL2 ret2 rm2 Y ad 60 S h (.ref (ad 0) :: av) post) (hpost : ∀ r S' h', post r S' h' → Sp S S' ∧ R r h') (W : WS pr n S) (ks : KS n S h) (hd : decode code pc = .ok (.invokevirtual ix, 3)) (hk : CK room_1 y c2 maxL2 ret2 rm2 av.length) (h0 : rm2.cells = 0 ∧ rm2.slots = 0) (hlink : Cond.methodLink R_law ix y ∈ TW) (hins : Cond.instanceMethod y ∈ TW) (hsel : Cond.selects y.cls y y ∈ TW) (hcl : vwCl[10]? = some (y.cls, TX11, 13)) (hstk : stk = av.reverse ++ .ref (ad 0) :: st) (hroom : (st.map fun v => v.category).sum ≤ 8) (hc : cells + 2 ≤ 601024 ∧ slots + 62 ≤ 7293034)
    (kk : ∀ r pr' n' ad' S' h' h'', R r h' → (∀ k, k < 60 → h'' k = h' k) → ad' 0 = ad 0 → WS pr' n' S' → KS n' S' h'' → LJ X Y cL ((n', ad', S', h''), (adm, hm), (o, f)) (cells + 2) (slots + 62) (pc + 3) lv (.int r :: st)) : LJ X Y cL ((n, ad, S, h), (adm, hm), (o, f)) cells slots pc lv stk := by
  refine l_callC C hM hd hk h0 hlink hins hsel W.1 (sh_0 W) hcl (fun r S' h' q k hk => Sp_ge (hpost r S' h' q).1 (by omega)) hstk hroom ⟨by omega, by omega⟩ (fun r S' h' q => ?_)
  obtain ⟨e, hR⟩ := hpost r S' h' q
  obtain ⟨pr', W'⟩ := Sp_W W e
  exact l_widen (Nat.le_add_right _ _) (Nat.le_add_right _ _) (kk r pr' n ad S' h' _ hR (fun k hk => hcut_lt hk) rfl W' (KS_cut (KS_sp W.1 ks e)))
theorem l_G (C : LC X Y cL) {post : Int32 → gU → Prop} {R : Int32 → ph_H → Prop} (hM : GM X.1.2.1 y (.code y c2 maxL2 ret2) rm2 Y ad n S h (.ref (ad 0) :: av) (gQi Y ad n S h post)) (hpost : ∀ r u, post r u → ∃ h', R r h' ∧ KP pr ad n h' u) (W : WS pr n S) (ks : KS n S h) (hd : decode code pc = .ok (.invokevirtual ix, 3)) (hk : CK room_1 y c2 maxL2 ret2 rm2 av.length) (h0 : rm2.cells ≤ 2 ∧ rm2.slots ≤ 62) (hlink : Cond.methodLink R_law ix y ∈ TW) (hins : Cond.instanceMethod y ∈ TW) (hsel : Cond.selects y.cls y y ∈ TW) (hcl : vwCl[10]? = some (y.cls, TX11, 13)) (hstk : stk = av.reverse ++ .ref (ad 0) :: st) (hroom : (st.map fun v => v.category).sum ≤ 8) (hc : cells + 2 ≤ 601024 ∧ slots + 62 ≤ 7293034)
    (kk : ∀ r pr' n' ad' S' h' h'', R r h' → (∀ k, k < 60 → h'' k = h' k) → ad' 0 = ad 0 → WS pr' n' S' → KS n' S' h'' → LJ X Y cL ((n', ad', S', h''), (adm, hm), (o, f)) (cells + 2) (slots + 62) (pc + 3) lv (.int r :: st)) : LJ X Y cL ((n, ad, S, h), (adm, hm), (o, f)) cells slots pc lv stk := by
  refine l_callG C hM hd hk hlink hins hsel W.1 (sh_0 W) hcl hstk hroom ⟨by omega, by omega⟩ (fun r u q => ?_)
  obtain ⟨h', hR, u1, u2, u3, u4, u5⟩ := hpost r u q
  obtain ⟨n', ad', S', h''⟩ := u
  exact l_widen (by omega) (by omega) (kk r pr n' ad' S' h' h'' hR u5 (u2 0 (Nat.lt_of_lt_of_le (by decide) W.1)) u3 u4)
theorem l_M (C : LC X Y cL) {post : Int32 → ph_S → ph_H → Prop} {R : Int32 → ph_H → Prop} (hM : MI X.1.2.1 y c2 maxL2 ret2 rm2 Y adm 50 SM hm (.ref (adm 0) :: av) post) (hpost : ∀ r S' h', post r S' h' → S' = SM ∧ R r h') (hd : decode code pc = .ok (.invokevirtual ix, 3)) (hk : CK room_1 y c2 maxL2 ret2 rm2 av.length) (h0 : rm2.cells = 0 ∧ rm2.slots = 0) (hlink : Cond.methodLink R_law ix y ∈ TW) (hins : Cond.instanceMethod y ∈ TW) (hsel : Cond.selects y.cls y y ∈ TW) (hcl : vwCl[11]? = some (y.cls, TX12, 83)) (hstk : stk = av.reverse ++ .ref (adm 0) :: st) (hroom : (st.map fun v => v.category).sum ≤ 8) (hc : cells ≤ 601024 ∧ slots ≤ 7293034)
    (kk : ∀ r h', R r h' → LJ X Y cL (w.1, (adm, h'), w.2.2) cells slots (pc + 3) lv (.int r :: st)) : LJ X Y cL (w.1, (adm, hm), w.2.2) cells slots pc lv stk := by
  obtain ⟨⟨n, ad, S, h⟩, wm, ⟨o, f⟩⟩ := w
  exact l_callM C hM hd hk h0 hlink hins hsel hcl (fun r S' h' q => (hpost r S' h' q).1) hstk hroom hc (fun r S' h' q => kk r h' (hpost r S' h' q).2)
end LROW
section LHROW
variable {X : lj_X} {Y : fj_Y} {cL : ClassId} {cells slots : Nat} {pc : Nat} {lv : List (Nat × Value)} {stk st : List Value} {y : MethodName} {c2 : ByteArray} {maxL2 ix : Nat} {ret2 : Option FieldType} {hh : List (Nat × Nat × Nat × Nat)} {rm2 : Room} {av : List Value} {n : Nat} {ad : Nat → Nat} {S : ph_S} {h : ph_H} {adm : Nat → Nat} {hm : ph_H} {o : Nat} {f : Nat → Int64} {pr : Nat}
/-- a helper whose call looks at the first 60 places alone -/
theorem l_HC (C : LC X Y cL) {post : Int32 → gU × (Nat → Int64) → Prop} {R : Int32 → ph_H → (Nat → Int64) → Prop} (hM : HM X.1.2.1 y (.codeWith y c2 maxL2 ret2 hh) rm2 Y cL ad 60 S h o f av post) (hpost : ∀ r u, post r u → ∃ h', u.1 = (60, ad, S, h') ∧ R r h' u.2) (V : WS pr n S) (ks : KS n S h) (hd : decode code pc = .ok (.invokestatic ix, 3)) (hcode : Cond.codeWith y c2 maxL2 ret2 hh ∈ TW) (hini : Cond.initialized y.cls ∈ TW) (hy : y.cls ≠ "java/lang/invoke/MethodHandle" ∧ y.cls ≠ "java/lang/invoke/VarHandle") (hk : (parseMethodDescriptor y.desc).map (fun d => d.parameters.length) = some av.length) (hfr : rm2.frames + 1 ≤ room_1.frames ∧ 8 + (maxL2 + 11) + rm2.locals ≤ room_1.locals) (h0 : rm2.cells ≤ 2 ∧ rm2.slots ≤ 62) (hlink : Cond.methodLink R_law ix y ∈ TW) (hst : Cond.static y ∈ TW) (hstk : stk = av.reverse ++ st) (hroom : (st.map fun v => v.category).sum ≤ 8) (hc : cells + 2 ≤ 601024 ∧ slots + 62 ≤ 7293034)
    (kk : ∀ r pr' n' ad' S' h' h'' f', R r h' f' → (∀ k, k < 60 → h'' k = h' k) → ad' 0 = ad 0 → WS pr' n' S' → KS n' S' h'' → LJ X Y cL ((n', ad', S', h''), (adm, hm), (o, f')) (cells + 2) (slots + 62) (pc + 3) lv (.int r :: st)) : LJ X Y cL ((n, ad, S, h), (adm, hm), (o, f)) cells slots pc lv stk := by
  have h60 := V.1
  obtain ⟨⟨p, l, e⟩, ⟨s, m, below, meth, c⟩, ⟨b, L, xs⟩⟩ := X
  obtain ⟨hx, hb, hret, hml, hown, hts, hX, hbl, hlk, hL, htr, hE, hK, hK2⟩ := C
  subst hstk
  intro H locs ls hW hS hl
  obtain ⟨w1, w2, w3, i1, i2, a1, a2, a3, d1, d2, d3⟩ := hW
  have w6 : va_P Y.1 vwCl (ph_w 60 Y.2 ad S h) H := phP.mpr (fun k hk => phP.mp w1 k (Nat.lt_of_lt_of_le hk h60))
  have hD0 : va_D (fun q => s.heap.size ≤ q) (ph_w 60 Y.2 ad S h) := phD.mpr ⟨fun i j hi hj q => i1 i j (Nat.lt_of_lt_of_le hi h60) (Nat.lt_of_lt_of_le hj h60) q, fun k hk => a1 k (Nat.lt_of_lt_of_le hk h60)⟩
  have hA0 : ∀ q, va_A (ph_w 60 Y.2 ad S h) H.size q → s.heap.size ≤ q := gFc (G := Y.1) hD0 hS (fun _ q => q)
  have hA1 : ∀ q, hA Y ad 60 S h o H.size q → s.heap.size ≤ q := fun q hq => by
    rcases hq with hq | rfl
    · exact hA0 q hq
    · exact a3
  refine va_calli (vx_runSW (hh := hh) (bytes := c2) (maxL := maxL2) (ret := ret2) (As := av) (rest := st) ⟨hx, hb, hml, hown, hts⟩ (hM H.size) ⟨⟨rfl, rfl, hfr.1, hfr.2, pay_in (big := TW) hts (fun w hw => ?_), List.mem_cons_self⟩, hts _ hcode, hts _ hini, hy, fun sig hs => ?_, hts _ hlink, hts _ hst⟩ ⟨hPc_blind, fun U hU hWm => ⟨rfl, by rw [hU], ⟨by rw [hU]; exact w6, va_K.moved hWm.alike hK, hD0.weaken (fun _ _ _ _ => trivial)⟩, by subst hU; exact hE.warm hWm hS hA1, by rw [hU]; exact w3, va_K.moved hWm.alike hK2, fun k hk => d2 k (Nat.lt_of_lt_of_le hk h60)⟩⟩ rfl rfl hl.1 rfl (lv_room hroom) hd ⟨Nat.le_trans (Nat.add_le_add_left h0.1 _) hc.1, Nat.le_trans (Nat.add_le_add_left h0.2 _) hc.2⟩) hS (fun q _ hq => hA1 q hq) hA1 (fun r u t H1 locs1 ht hvm hp hB hz1 hk1 hS1 => ?_)
  · rcases List.mem_cons.mp hw with e | e
    · rw [e]; exact TW_good _ hcode
    · exact TW_good _ e
  · rw [hs] at hk
    exact (Option.some.inj hk).symm
  · obtain ⟨⟨hP1, hK1, hD1⟩, hO1⟩ := hB
    obtain ⟨h', eu, hR⟩ := hpost r u hp
    rw [ht] at hP1 hO1
    rw [eu] at hP1
    have nM : ∀ j, j < 50 → ¬ hA Y ad 60 S h o H.size (adm j) := fun j hj z => by
      rcases z with z | z
      · rcases phA.mp z with ⟨k, hk, e⟩ | z
        · exact d1 k j (Nat.lt_of_lt_of_le hk h60) hj e.symm
        · exact absurd ((phP.mp w2 j hj).lt) (Nat.not_lt.mpr z)
      · exact d3 j hj z
    have j1 : va_P Y.1 vwCl (ph_w n Y.2 ad S (hcut 60 h' h)) H1 := phP.mpr (fun k hk => by
      by_cases q : k < 60
      · rw [hcut_lt q]
        exact phP.mp hP1 k q
      · rw [hcut_ge (by omega)]
        have lt : ad k < H.size := (phP.mp w1 k hk).lt
        refine (phP.mp w1 k hk).kept (hk1 _ lt (fun z => ?_))
        rcases z with z | z
        · rcases phA.mp z with ⟨j, hj, e⟩ | z
          · have := i1 k j hk (Nat.lt_of_lt_of_le hj h60) e
            omega
          · exact absurd lt (Nat.not_lt.mpr z)
        · exact d2 k hk z)
    exact W.widen (Nat.add_le_add_left h0.1 _) (Nat.add_le_add_left h0.2 _) (kk r pr n ad S h' (hcut 60 h' h) u.2 hR (fun k hk => hcut_lt hk) rfl V (KS_cut ks) H1 locs1 ls ⟨j1, lw_kept w2 hk1 nM, hO1, i1, i2, a1, a2, a3, d1, d2, d3⟩ hS1 hl)
/-- a helper whose call leaves all as it was -/
theorem l_HE (C : LC X Y cL) {post : Int32 → gU × (Nat → Int64) → Prop} (hM : HM X.1.2.1 y (.codeWith y c2 maxL2 ret2 hh) rm2 Y cL ad n S h o f av post) (hpost : ∀ r u, post r u → u.1 = (n, ad, S, h)) (W : WS pr n S) (ks : KS n S h) (hd : decode code pc = .ok (.invokestatic ix, 3)) (hcode : Cond.codeWith y c2 maxL2 ret2 hh ∈ TW) (hini : Cond.initialized y.cls ∈ TW) (hy : y.cls ≠ "java/lang/invoke/MethodHandle" ∧ y.cls ≠ "java/lang/invoke/VarHandle") (hk : (parseMethodDescriptor y.desc).map (fun d => d.parameters.length) = some av.length) (hfr : rm2.frames + 1 ≤ room_1.frames ∧ 8 + (maxL2 + 11) + rm2.locals ≤ room_1.locals) (h0 : rm2.cells ≤ 2 ∧ rm2.slots ≤ 62) (hlink : Cond.methodLink R_law ix y ∈ TW) (hst : Cond.static y ∈ TW) (hstk : stk = av.reverse ++ st) (hroom : (st.map fun v => v.category).sum ≤ 8) (hc : cells + 2 ≤ 601024 ∧ slots + 62 ≤ 7293034)
    (kk : ∀ r f', LJ X Y cL ((n, ad, S, h), (adm, hm), (o, f')) (cells + 2) (slots + 62) (pc + 3) lv (.int r :: st)) : LJ X Y cL ((n, ad, S, h), (adm, hm), (o, f)) cells slots pc lv stk := by
  refine l_callH C hM hd hcode hini hy hk hfr hlink hst hstk hroom ⟨by omega, by omega⟩ (fun r u q => ?_)
  obtain ⟨u1, u2⟩ := u
  have e : u1 = (n, ad, S, h) := hpost r _ q
  subst e
  exact l_widen (by omega) (by omega) (kk r u2)
end LHROW
