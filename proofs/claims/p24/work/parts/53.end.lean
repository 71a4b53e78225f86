/-! THE LAW FROM ITS ENTRY -/
/-- what holds at the law's entry: the machine, the code, the tables' words (any of lw_tbl by 'hts w (by decide +kernel)'), the script of L ints xs at the cell b, what the Statement gives of the start (any of its parts by flat_of_before) -/
def lw_At (p : Program) (s : State) (m : MethodId) (meth : Method) (c : Code) (b L : Nat) (xs : Nat → Int32) : Prop :=
  p.tables.exec = Jvm.exec ∧ c.code = code ∧ meth.sig.returnType = ret ∧ c.maxLocals = 7 ∧ s.vm.findClass R_law = some m.cls ∧ (∀ w ∈ lw_tbl, w.before #[Value.ref b] s = true) ∧ va_X b L xs s s.heap ∧ b < s.heap.size ∧ meth.locks = false ∧ (Jvm.Cond.and given_1 narrow_1).before #[Value.ref b] s = true

abbrev rfX : Nat → Option (Option Nat) := rfL [] [1, 2, 3, 4, 5, 6, 8, 10, 11, 12, 13, 14, 15, 16, 17, 19, 20, 21, 22, 43, 44, 45, 46, 47, 48, 49, 50, 51, 52, 53, 54, 55, 56, 57, 58, 59, 61, 62, 63, 71, 72, 75, 76, 77, 78, 79, 80, 81, 82]
theorem app_last {α : Type} {l : List α} {x : α} : (l ++ [x])[l.length]? = some x := by simp
theorem app_lt {α : Type} {l : List α} {x y : α} {k : Nat} (h : l[k]? = some y) : (l ++ [x])[k]? = some y := by
  rw [List.getElem?_append_left (List.getElem?_eq_some_iff.mp h).1]
  exact h
theorem ph_len {n : Nat} {cA : Nat → ClassId} {ad : Nat → Nat} {S : ph_S} {h : ph_H} : (ph_w n cA ad S h).length = n := by
  unfold ph_w
  simp
theorem rfX_dv : dvOk tyX12 rfX 83 = true := by decide +kernel
section LSTART
variable {p : Program} {l : Launch} {e : Env} {s : State} {m : MethodId} {below : List Frame} {meth : Method} {c : Code} {b L : Nat} {xs : Nat → Int32} {G : va_G} {cA : Nat → ClassId} {ad : Nat → Nat} {H : Heap} {locs : List Loc} {ls : Array Slot}
set_option maxRecDepth 100000 in
/-- the reference is made -/
theorem law_2 (hx : p.tables.exec = Jvm.exec) (hb : c.code = code) (hml : c.maxLocals = 7) (hown : s.vm.findClass R_law = some m.cls) (hts : ∀ w ∈ TW, w.before #[Value.ref b] s = true) (hK : va_K G vwCl (tyl cA) s) (E : EN (fun q => s.heap.size ≤ q) s) (w1 : va_P G vwCl (ph_w 60 cA ad SI hC0) H) (hD1 : va_D (fun q => s.heap.size ≤ q) (ph_w 60 cA ad SI hC0)) (hS1 : va_S (fun q => s.heap.size ≤ q) s.heap H locs) (hl : lv_has ls 7 [(1, .ref (ad 0)), (0, .ref b)])
    (kk : ∀ (adm : Nat → Nat) (H2 : Heap) (locs2 : List Loc) (ls2 : Array Slot), va_P G vwCl (ph_w 60 cA ad SI hC0) H2 → va_P G vwCl (ph_w 50 cA adm SMI hM0) H2 → (∀ i j, i < 50 → j < 50 → adm i = adm j → i = j) → (∀ j, j < 50 → s.heap.size ≤ adm j) → (∀ i j, i < 60 → j < 50 → ad i ≠ adm j) → va_S (fun q => s.heap.size ≤ q) s.heap H2 locs2 → lv_has ls2 7 [(2, .ref (adm 0)), (1, .ref (ad 0)), (0, .ref b)] → W p l e room_1 s m #[Value.ref b] below meth c H2 locs2 110 190212 (lw_Z below #[Value.ref b] s) (F0 m 16 ls2 [])) : W p l e room_1 s m #[Value.ref b] below meth c H locs 60 7206 (lw_Z below #[Value.ref b] s) (F0 m 8 ls []) := by
  refine va_new (ci := 11) (C := RX12) (T := TX12) (N := 83) (fs := (List.range 83).map (ph_f (fun _ => 0) (rz rfX) (fun _ => 0))) hx hb hts inM tyX12 tyX12_ok hown (hts _ cl_RL_25) (hts _ is_X12) (hts _ iz_X12) hK w1 hD1 hS1 (fun _ h => h) rfl (fun j hj => ?_) (by decide) (by decide) dL_law_8 (fun q H1 hP hD hS => ?_)
  · unfold vp_V
    rw [List.getD_eq_getElem?_getD, List.getElem?_map, List.getElem?_range hj]
    exact rz_f rfX_dv hj
  have ew : ph_w 1 cA (fun _ => q) (va_up SMI 0 (.inr (.inl (11, 83, rfX)))) h00 = [(q, .inr (11, (List.range 83).map (ph_f (fun _ => 0) (rz rfX) (fun _ => 0))))] := by
    show [(q, ph_e cA (fun _ => q) (va_up SMI 0 (.inr (.inl (11, 83, rfX))) 0) (h00 0))] = _
    rw [va_up_self, show (rfX : Nat → Option (Option Nat)) = rz rfX from rfL_rz.symm]
    exact congrArg (fun z => [(q, z)]) (ph_e_ad (n := 0) (ad := fun _ => 0) (E := .inr (.inl (11, 83, rz rfX))) (fun j r hr => (rz_cl hr).elim) (fun k hk => absurd hk (Nat.not_lt_zero k)))
  have w1 : va_P G vwCl (ph_w 60 cA ad SI hC0) H1 := fun k x hx => hP k x (app_lt hx)
  have w2 : va_P G vwCl (ph_w 1 cA (fun _ => q) (va_up SMI 0 (.inr (.inl (11, 83, rfX)))) h00) H1 := by
    rw [ew]
    intro k x hx
    have h1 : k < 1 := (List.getElem?_eq_some_iff.mp hx).1
    have e : k = 0 := by omega
    subst e
    cases hx
    exact hP _ _ app_last
  have hq : s.heap.size ≤ q := hD.2 _ _ app_last
  have hne : ∀ k, k < 60 → ad k ≠ q := fun k hk e => by
    have h1 := hD.1 k _ _ _ (app_lt (ph_at hk)) app_last e
    rw [ph_len] at h1
    omega
  have hD2 : va_D (fun q => s.heap.size ≤ q) (ph_w 1 cA (fun _ => q) (va_up SMI 0 (.inr (.inl (11, 83, rfX)))) h00) := phD.mpr ⟨fun i j hi hj _ => by omega, fun k _ => hq⟩
  have hFc := gFc (G := G) hD2 hS (fun _ h => h)
  refine lv_dup hx hb dL_law_11 rfl ?_
  refine va_callv (va_runI (As := []) (rest := [.ref q]) ⟨hx, hb, hml, hown, hts⟩ (GX12_init (l0 := l) (Y := (G, cA)) (ad := fun _ => q) H1.size) ⟨(CKX12_init (rm := room_1) (by decide)).B hts lk_RL_27, rfl, hts _ in_X12_init⟩ ⟨gPc_blind, gPre E w2 hK hD2 hS (fun _ h => h) _⟩ rfl rfl hl.1 rfl (lv_room (Nat.le_of_ble_eq_true rfl)) dL_law_12 ⟨by decide, by decide⟩) hS (fun q _ hq => hFc q hq) hFc (fun u t H3 locs3 ht hvm hp hB hz hk hS3 => ?_)
  obtain ⟨adm, eu, e3⟩ := hp
  subst eu
  obtain ⟨hP3, hK3, hD3⟩ := hB
  rw [ht] at hP3
  obtain ⟨d1, d2⟩ := phD.mp hD3
  have e3 : adm 0 = q := e3
  refine lv_astore_n (lv' := [(2, .ref q), (1, .ref (ad 0)), (0, .ref b)]) hx hb dL_law_15 rfl hl (by decide) rfl (fun ls2 hl2 => ?_)
  have nA : ∀ j, j < 60 → ¬ va_A (ph_w 1 cA (fun _ => q) (va_up SMI 0 (.inr (.inl (11, 83, rfX)))) h00) H1.size (ad j) := fun j hj z => by
    rcases phA.mp z with ⟨k, hk, e⟩ | z
    · exact hne j hj e
    · exact absurd ((phP.mp w1 j hj).lt) (Nat.not_lt.mpr z)
  exact kk adm H3 locs3 ls2 (lw_kept (Y := (G, cA)) w1 hk nA) hP3 d1 (fun j hj => hFc _ (d2 j hj)) (fun i j hi hj e => nA i hi (by rw [e]; exact d2 j hj)) hS3 (by rw [e3]; exact hl2)
set_option maxRecDepth 100000 in
/-- the row 'out', and the loop -/
theorem law_3 (hx : p.tables.exec = Jvm.exec) (hb : c.code = code) (hr : meth.sig.returnType = ret) (hml : c.maxLocals = 7) (hown : s.vm.findClass R_law = some m.cls) (hts : ∀ w ∈ TW, w.before #[Value.ref b] s = true) (hX : va_X b L xs s s.heap) (hbl : b < s.heap.size) (hlocks : meth.locks = false) (hL : L ≤ 3072) (htr : l.stackTraces = false) (hK : va_K G vwCl (tyl cA) s) (E : EN (fun q => s.heap.size ≤ q) s) {adm : Nat → Nat} (w1 : va_P G vwCl (ph_w 60 cA ad SI hC0) H) (w2 : va_P G vwCl (ph_w 50 cA adm SMI hM0) H) (i1 : ∀ i j, i < 60 → j < 60 → ad i = ad j → i = j) (a1 : ∀ i, i < 60 → s.heap.size ≤ ad i) (i2 : ∀ i j, i < 50 → j < 50 → adm i = adm j → i = j) (a2 : ∀ j, j < 50 → s.heap.size ≤ adm j) (d1 : ∀ i j, i < 60 → j < 50 → ad i ≠ adm j) (hS : va_S (fun q => s.heap.size ≤ q) s.heap H locs) (hl : lv_has ls 7 [(2, .ref (adm 0)), (1, .ref (ad 0)), (0, .ref b)]) : W p l e room_1 s m #[Value.ref b] below meth c H locs 110 190212 (lw_Z below #[Value.ref b] s) (F0 m 16 ls []) := by
  refine lv_iconst (v := 1) hx hb dL_law_16 (by decide) ?_
  refine va_newaK (N := 1) (h := H.size) hx hb (atype := .long) (hts _ ar_long) rfl dL_law_17 rfl (by decide) (by decide) (by decide) (by decide) (by decide) rfl (fun H1 cL e1 z1 o1 hAr hNm => ?_)
  have l1 : ∀ i, i < 60 → ad i < H.size := fun i hi => (phP.mp w1 i hi).lt
  have l2 : ∀ i, i < 50 → adm i < H.size := fun i hi => (phP.mp w2 i hi).lt
  have hS1 : va_S (fun q => s.heap.size ≤ q) s.heap H1 locs := ⟨Nat.le_trans hS.1 (by omega), fun x h1 h2 => (o1 x (Nat.lt_of_lt_of_le h1 hS.1)).trans (hS.2.1 x h1 h2), hS.2.2⟩
  have hK2 : va_K G vwCl [(cL, .long)] s := ⟨hK.1, fun k q hq => by
    have h1 : k < 1 := (List.getElem?_eq_some_iff.mp hq).1
    have e : k = 0 := by omega
    subst e
    cases hq
    exact ⟨hAr, hNm⟩⟩
  have C : LC ((p, l, e), (s, m, below, meth, c), (b, L, xs)) (G, cA) cL := ⟨hx, hb, hr, hml, hown, hts, hX, hbl, hlocks, hL, htr, E, hK, hK2⟩
  refine lv_astore_n (lv' := [(3, .ref H.size), (2, .ref (adm 0)), (1, .ref (ad 0)), (0, .ref b)]) hx hb dL_law_19 rfl hl (by decide) rfl (fun ls hl => ?_)
  refine lv_iconst (v := nI (6 * 0)) hx hb dL_law_20 (by decide) ?_
  refine lv_istore (lv' := [(4, .int (nI (6 * 0))), (3, .ref H.size), (2, .ref (adm 0)), (1, .ref (ad 0)), (0, .ref b)]) hx hb dL_law_21 hl (by decide) rfl (fun ls hl => ?_)
  refine (L_loop (adm := adm) (o := H.size) C 512 0 h00 1 60 (fun k => ad (sg k)) S0 hC0 hM0 (fun _ => 0) 111 190213 rfl W0 K0 C0 M0 L00 (by decide) (by decide)) H1 locs ls ⟨?_, ?_, ?_, ?_, i2, ?_, a2, hS.1, ?_, ?_, ?_⟩ hS1 ⟨hl.1, hl.2.1, fun q hq => hl.2.2 q ?_⟩
  · exact phP.mpr (fun k hk => by
      show va_at G vwCl (ad (sg k), ph_e cA (fun k => ad (sg k)) (S0 k) (hC0 k)) H1
      rw [cv_e k hk]
      exact (phP.mp w1 (sg k) (sg_lt hk)).kept (o1 _ (l1 _ (sg_lt hk))))
  · exact phP.mpr (fun k hk => by
      show va_at G vwCl (adm k, ph_e cA adm (SM k) (hM0 k)) H1
      rw [cv_m k hk]
      exact (phP.mp w2 k hk).kept (o1 _ (l2 _ hk)))
  · intro k q hq
    have h1 : k < 1 := (List.getElem?_eq_some_iff.mp hq).1
    have e : k = 0 := by omega
    subst e
    cases hq
    exact e1
  · intro i j hi hj q
    have := i1 _ _ (sg_lt hi) (sg_lt hj) q
    rw [← sg_sg i, this, sg_sg]
  · exact fun i hi => a1 _ (sg_lt hi)
  · exact fun i j hi hj => d1 _ _ (sg_lt hi) hj
  · exact fun i hi => Nat.ne_of_lt (l1 _ (sg_lt hi))
  · exact fun j hj => Nat.ne_of_lt (l2 _ hj)
  · have hq : q ∈ [(0, Value.ref b), (1, Value.ref (ad 0)), (2, Value.ref (adm 0)), (3, Value.ref H.size), (4, Value.int (nI (6 * 0)))] := hq
    simp only [List.mem_cons, List.not_mem_nil, or_false] at hq ⊢
    rcases hq with h | h | h | h | h <;> simp [h]
end LSTART
set_option maxRecDepth 100000 in
set_option maxHeartbeats 4000000 in
theorem whole_start {p : Program} {e : Env} {s : State} {m : MethodId} {below : List Frame} {meth : Method} {c : Code} (l : Launch) (htr : l.stackTraces = false) {b L : Nat} {xs : Nat → Int32} (hL : L ≤ 3072) (C0 : lw_At p s m meth c b L xs) : W p l e room_1 s m #[Value.ref b] below meth c s.heap [] 0 0 (lw_Z below #[Value.ref b] s) (entryFrame m ([Value.ref b] : List Value).toArray 7) := by
  obtain ⟨hx, hb, hr, hml, hown, hts0, hX, hbl, hlocks, hgv⟩ := C0
  have hts : ∀ w ∈ TW, w.before #[Value.ref b] s = true := fun w hw => hts0 w (TW_in hw)
  have E : EN (fun q => s.heap.size ≤ q) s := EN0 hts0 hgv
  obtain ⟨⟨G, cA⟩, hK⟩ := KA0 hts (hts0 _ (List.mem_append_right _ en_T1)) (hts0 _ (List.mem_append_right _ en_T2))
  have hK : va_K G vwCl (tyl cA) s := hK
  have hl := lv_entry ([.ref b]) (n := 7) (Nat.le_of_ble_eq_true rfl)
  rw [lg_entry_eq]
  generalize (lg_sl ([.ref b]) ++ List.replicate (7 - (lg_sl ([.ref b])).length) Slot.unset).toArray = ls at hl ⊢
  have hl : lv_has ls 7 [(0, .ref b)] := hl
  have C1 : FC ((p, l, e, room_1), (s, m, #[Value.ref b], below, meth, c), (0, 0, lw_Z below #[Value.ref b] s), (7, fun q => s.heap.size ≤ q)) (G, cA) l code 7 R_law room_1 0 0 ret := ⟨hx, hb, hml, hown, hts, hK, hlocks, rfl, rfl, rfl, rfl, hr, rfl, Nat.zero_le _, Nat.zero_le _, fun _ h => h⟩
  have F1 : FJ ((p, l, e, room_1), (s, m, #[Value.ref b], below, meth, c), (0, 0, lw_Z below #[Value.ref b] s), (7, fun q => s.heap.size ≤ q)) (G, cA) (fun _ => 0) 0 SI h00 0 [(0, .ref b)] [] := by
    refine j_newS (ci := 10) (T := TX11) (todo := [0, 1, 2, 3, 4, 5, 6, 7]) C1 dL_law_0 rfl inX11 tyX11_ok cl_RL_8 is_X11 iz_X11 (by decide +kernel) rfl (fun k hk => absurd hk (Nat.not_lt_zero k)) (by decide) (by decide) (fun ad1 _ hc1 => ?_)
    have C2 := C1.g (a := 1) (b := 13) (by decide) (by decide)
    refine j_dup C2 dL_law_3 rfl ?_
    refine j_gv C2 (gr_I (b := ad1 0) (av := []) C2 E GX11_init dL_law_4 (CKX11_init (by decide)) ⟨by decide, by decide⟩ lk_RL_24 in_X11_init rfl rfl (Nat.le_of_ble_eq_true rfl)) ?_
    rintro u ⟨ad2, rfl, e2⟩
    intro H locs ls hP1 hD1 hS1 hl
    have e2 : ad2 0 = ad1 0 := e2
    refine lv_astore_n (lv' := [(1, .ref (ad1 0)), (0, .ref b)]) hx hb dL_law_7 rfl hl (by decide) rfl (fun ls2 hl2 => ?_)
    rw [← e2] at hl2
    obtain ⟨j1, j2⟩ := phD.mp hD1
    exact law_2 hx hb hml hown hts hK E hP1 hD1 hS1 hl2 (fun adm H2 locs2 ls2 w1 w2 i2 a2 d1 hS2 hl2 => law_3 hx hb hr hml hown hts hX hbl hlocks hL htr hK E w1 w2 j1 j2 i2 a2 d1 hS2 hl2)
  exact F1 s.heap [] ls (fun k q h => by cases h) (phD.mpr ⟨fun i j hi => absurd hi (Nat.not_lt_zero i), fun k hk => absurd hk (Nat.not_lt_zero k)⟩) va_S.rf hl
set_option maxHeartbeats 4000000 in
theorem lw_walk (l : Launch) (htr : l.stackTraces = false) (b : Addr) (xs : List Int32) : MetFree l x (headSpec (Jvm.Cond.code x code maxLocals ret :: tables_1) room_1) (lw_P b xs) (fun _ _ _ _ _ => True) lw_Q := by
  refine MetFree.of_bodyS (code := code) (maxLocals := maxLocals) (ret := ret) (by decide) ?_ ?_
  · intro args s m h hn
    obtain ⟨meth, c, h1, h2, h3, h4, h5, h6, -, -⟩ := Cond.code_spec hn (atoms_spec (ws := Jvm.Cond.code x code maxLocals ret :: tables_1) h _ List.mem_cons_self)
    exact ⟨meth, c, h1, h2, h3, h4, h5, h6⟩
  · intro p e s m args below meth c s₁ B hml0 hP _
    obtain ⟨rfl, hx, hbd, hgv⟩ := hP
    obtain ⟨scr, harrAt, hlist, hof, hsmall⟩ := hx
    obtain ⟨hcb, hkn, -, -⟩ := State.arrayAt?_spec harrAt
    have hown : s.vm.findClass R_law = some m.cls := findClass_of_methodNamed B.named
    have hts0 : ∀ c ∈ (Jvm.Cond.code x code maxLocals ret :: tables_1), c.before #[Value.ref b] s = true := atoms_spec (ws := Jvm.Cond.code x code maxLocals ret :: tables_1) B.pre
    have hts : ∀ w ∈ lw_tbl, w.before #[Value.ref b] s = true := k2_hts_sels lw_privs (fun w hw => hts0 w (List.mem_cons_of_mem _ hw)) lw_privs_ok
    have hml : c.maxLocals = 7 := B.maxLocals_eq (hts0 _ List.mem_cons_self)
    have X₀ : Stand p l e room_1 s m #[Value.ref b] below meth c s₁ [] 0 0 := Stand.of_body B
    have hh0 : s₁.heap = s.heap := by rw [B.state]; rfl
    have hsz : scr.slots.size = xs.length := by rw [← Array.length_toList, hlist, List.length_map]
    have hval : ∀ j : Nat, j < xs.length → scr.slots[j]? = some (.int (xs.getD j 0)) := fun j hj => by
      rw [← Array.getElem?_toList, hlist]
      simp [hj]
    have hbl : b < s.heap.size := (Array.getElem?_eq_some_iff.mp hcb).1
    have hX : va_X b xs.length (fun j => xs.getD j 0) s s.heap := ⟨scr, hcb, hof, hkn, hsz, hval⟩
    have K : W p l e room_1 s m #[Value.ref b] below meth c s₁.heap [] 0 0 (lw_Z below #[Value.ref b] s) (entryFrame m ([Value.ref b] : List Value).toArray 7) := by
      rw [hh0]
      exact whole_start l htr hbd ⟨B.exec, B.bytes, B.returns, hml, hown, hts, hX, hbl, B.notSynchronized, hgv⟩
    obtain ⟨t, a1, o, b1, b2, b3⟩ := K s₁ rfl X₀
    exact ⟨t, o, a1, b1, b2, b3⟩
theorem lw_pre_spec {args : Array Value} {s : State} (h : (Jvm.Cond.and given_1 narrow_1).before args s = true) (hr : rest_1_c.before args s = true) : ∃ (b : Addr) (xs : List Int32), lw_P b xs args s := by
  have hs := flat_of_before _ h
  have hq := flat_of_before _ hr
  have hc : (Cond.count 1).before args s = true := hs _ (by decide +kernel)
  have harr : (Cond.arrayOf (.arg 0) .int).before args s = true := hs _ (by decide +kernel)
  have hle : (Cond.le (.length (.arg 0)) (.int 3072)).before args s = true := hs _ (by decide +kernel)
  have hlen : (Cond.isInt (.length (.arg 0))).before args s = true := hq _ (by decide +kernel)
  have hall : (Cond.all (.arg 0) (.isInt (.elem (.arg 0) (.index 0)))).before args s = true := hq _ (by decide +kernel)
  obtain ⟨b, xs, hb, hx⟩ := State.ints_of_pre rfl harr hlen hall
  have hsm : xs.length < 2 ^ 31 := hx.choose_spec.2.2.2
  have hev : (Term.length (.arg 0)).eval args s none [] s = some (.int xs.length.toInt32) := hx.length_eval hb
  have hv := Cond.le_ints hev (show (Term.int 3072).eval args s none [] s = some (.int 3072) from rfl)
  have hd : xs.length.toInt32 ≤ 3072 := by
    simpa [Cond.before, Cond.holds, hv] using hle
  have hN : xs.length ≤ 3072 := (Int32.ofNat_le_ofNat hsm (by decide)).mp (show Int32.ofNat xs.length ≤ Int32.ofNat 3072 from hd)
  exact ⟨b, xs, Cond.one_arg hc (show args[0]? = some (.ref b) from hb), hx, hN, h⟩
theorem lw_comes (l : Launch) (htr : l.stackTraces = false) : Comes l x (Jvm.Cond.code x code maxLocals ret :: tables_1) room_1 (fun tb e args s => Calls_1 tb e args s ∧ rest_1 tb e args s ∧ Pre_1 tb e args s)
    (fun _ _ args s o t => lw_Q args s o t) := by
  intro p e ha hc hk s m args below hf hfit hheap happ hpre
  obtain ⟨b, xs, hP⟩ := lw_pre_spec hpre.2.2 hpre.2.1
  obtain ⟨k, o, h1, h2, h3, hQ⟩ := lw_walk l htr b xs p e ha hc hk s m args below hf ((Spec.applies_iff_loose hf).mp happ).1 hP trivial
  exact ⟨k, o, h1, h2, h3, hQ⟩
theorem lw_frame {s t : State} {o : Outcome} {args : Array Value} (h : Framed s o t [] 601024 7293034) :
    Framed s o t (fieldLocs frame_1_writes args s ++ arrayLocs frame_1_arrays args s ++ staticLocs frame_1_statics s) 601024 7293034 := h
theorem lw_limb (L : Cond) (hL : ∀ (args : Array Value) (s t : State), L.after args s (.returned (some (.int 1))) t = true) :
    ArmFor flags0 classFile x code maxLocals ret World_1 tables_1 room_1 Calls_1 rest_1 Pre_1
      (fun tb e a s o t => postC L tb e a s o t ∧ Framed s o t (fieldLocs frame_1_writes a s ++ arrayLocs frame_1_arrays a s ++ staticLocs frame_1_statics s) 601024 7293034) := by
  intro l hfl _ _ p e ha hc hk s m args below hf hfit hheap happ hpre
  obtain ⟨k, o, h1, h2, h3, rfl, hF⟩ := lw_comes l (by unfold Launch.stackTraces; rw [hfl]; decide) p e ha hc hk s m args below hf hfit hheap happ hpre
  exact ⟨k, _, h1, h2, h3, hL args s _, lw_frame hF⟩
theorem i_vc : Claimed_1_1 ∧ Claimed_1_2 := ⟨lw_limb limb_1_1 (fun args s t => by simp [limb_1_1, Cond.after, Cond.holds, Cond.value]), lw_limb limb_1_2 (fun args s t => Cond.after_iff.mpr (by
  first | (rw [show limb_1_2 = Cond.eq .result (.int 1) from rfl, Cond.eq_ints (x := 1) (y := 1) rfl rfl]; simp; done) | (simp [limb_1_2, Cond.value, Term.eval]; done)))⟩
