/-! A method of a class some of whose methods are run by entries: this one isn't. -/
theorem met_ofF {l : Launch} {y : MethodName} {ws ws' : List Cond} {rm : Room} {Pc : Array Value → State → Prop} {Qc : Array Value → State → Outcome → State → Prop} {mc ms : Nat} {free : Addr → Prop} {cc : ByteArray} {maxL : Nat} {ret : Option FieldType}
    (hy : plainFor y = true) (hw : ws = Cond.code y cc maxL ret :: ws')
    (body : ∀ p e s m args below meth c s₁, BodyLoose p l y (headSpec ws rm) cc maxL ret e s m args below meth c s₁ → c.maxLocals = maxL → Pc args s →
      W p l e (headSpec ws rm).room s m args below meth c s.heap [] 0 0 (MQ below Qc args s mc ms free) (entryFrame m args maxL)) : Met l y ws rm Pc Qc mc ms free := by
  refine MetFree.of_bodySF (code := cc) (maxLocals := maxL) (ret := ret) hy ?_ ?_
  · intro args s m h hn
    obtain ⟨meth, c, h1, h2, h3, h4, h5, h6, -, -⟩ := Cond.code_spec hn (atoms_spec (ws := ws) h _ (by rw [hw]; exact List.mem_cons_self))
    exact ⟨meth, c, h1, h2, h3, h4, h5, h6⟩
  · intro p e s m args below meth c s₁ B hml hP _
    have hh0 : s₁.heap = s.heap := by rw [B.state]; rfl
    obtain ⟨t, a1, o, b1, b2, b3⟩ := body p e s m args below meth c s₁ B hml hP s₁ hh0 (Stand.of_body B)
    exact ⟨t, o, a1, b1, b2, ⟨b3.1, b3.2⟩⟩
theorem met_iF {l : Launch} {y : MethodName} {cc : ByteArray} {maxL : Nat} {ty : FieldType} {rm : Room} {Y : fj_Y} {ad : Nat → Nat} {n : Nat} {S : ph_S} {h : ph_H} {av : List Value} {post : Int32 → ph_S → ph_H → Prop} (hy : plainFor y = true) (hav : (lg_sl av).length ≤ maxL)
    (hn : ∀ r S' h', post r S' h' → narrow ty (.int r) = .int r)
    (body : ∀ X : fj_X, FC X Y l cc maxL y.cls rm 0 0 (some ty) → (∀ r S' h', post r S' h' → ∀ pc lv, decode cc pc = .ok (.ireturn, 1) → FJ X Y ad n S' h' pc lv [.int r]) → FJ X Y ad n S h 0 (lv_args 0 av) []) : MI l y cc maxL (some ty) rm Y ad n S h av post := by
  intro sz
  refine met_ofF (cc := cc) (maxL := maxL) (ret := some ty) hy rfl ?_
  intro p e s m args below meth c s₁ B hml hv
  obtain ⟨rfl, hsz, hP, hK, hD0⟩ := hv
  subst hsz
  have hts := atoms_spec (ws := Cond.code y cc maxL (some ty) :: TW) B.pre
  obtain ⟨G, cA⟩ := Y
  have hD := hD0.self (sz := s.heap.size)
  have hl := lv_entry av (n := maxL) hav
  rw [lg_entry_eq]
  refine body ((p, l, e, rm), (s, m, av.toArray, below, meth, c), (0, 0, _), (maxL, va_A (ph_w n cA ad S h) s.heap.size)) ⟨B.exec, B.bytes, hml, findClass_of_methodNamed B.named, fun w hw => hts w (List.mem_cons_of_mem _ hw), hK, B.notSynchronized, rfl, rfl, rfl, rfl, B.returns, rfl, Nat.zero_le _, Nat.zero_le _, fun q hq => Or.inr hq⟩ ?_ s.heap [] _ hP hD va_S.rf hl
  intro r S' h' hp pc lv hd H locs ls hP' hD' hS' hl'
  refine W.widen (k := rm.cells) (n := rm.slots) (Nat.zero_le _) (Nat.zero_le _) ?_
  exact W.zret (v := r) B.exec B.bytes B.returns (hn r S' h' hp) (fun t ht hW => ⟨⟨r, (S', h'), rfl, hp, by rw [ht]; exact hP', va_K.moved hW.alike hK, hD'⟩, hS'.F ht⟩) hS'.2.2 hd
theorem RETi_u {X : fj_X} {Y : fj_Y} {ad : Nat → Nat} {n : Nat} {S : ph_S} {cc : ByteArray} {v : Int32} {h : ph_H} (r : RETi X Y ad n S cc (v, h)) (pc : Nat) (lv : List (Nat × Value)) (d : decode cc pc = .ok (.ireturn, 1)) : FJ X Y ad n S h pc lv [.int v] := r pc lv d
theorem RETz_u {X : fj_X} {Y : fj_Y} {ad : Nat → Nat} {n : Nat} {S : ph_S} {cc : ByteArray} {v : Int32} {h : ph_H} (r : RETz X Y ad n S cc (v, h)) (b : bo v) (pc : Nat) (lv : List (Nat × Value)) (d : decode cc pc = .ok (.ireturn, 1)) : FJ X Y ad n S h pc lv [.int v] := r b pc lv d
