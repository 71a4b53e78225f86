/-! What the tables say beyond the good words, and where Throwable keeps its statics: it holds in every state of a run. -/
def enM : List (String × Nat × MethodName × String) := [("ReplayBox", 11, ⟨"ReplayBox$Program", "<init>", "()V"⟩, "ReplayBox"), ("ReplayBox", 33, ⟨"ReplayBox$Trace", "<init>", "()V"⟩, "ReplayBox"), ("ReplayBox$Bytes", 13, ⟨"ReplayBox", "fits", "(III)Z"⟩, "ReplayBox"), ("ReplayBox$Ints", 13, ⟨"ReplayBox", "fits", "(III)Z"⟩, "ReplayBox")]
def enC : List (String × String) := [("java/lang/IllegalStateException", "java/lang/IllegalStateException"), ("java/lang/UnsupportedOperationException", "java/lang/UnsupportedOperationException"), ("java/lang/IllegalArgumentException", "java/lang/IllegalArgumentException"), ("ReplayBox$ShelvedRow", "ReplayBox$Held"), ("ReplayBox$ShelvedLock", "ReplayBox$Held"), ("ReplayBox$ShelvedGate", "ReplayBox$Held"), ("ReplayBox$Bytes", "ReplayBox$Held"), ("ReplayBox$Ints", "ReplayBox$Held")]
def enD : List MethodName := [⟨"java/lang/RuntimeException", "<init>", "()V"⟩, ⟨"java/lang/RuntimeException", "<init>", "(Ljava/lang/String;)V"⟩, ⟨"java/lang/Exception", "<init>", "()V"⟩, ⟨"java/lang/Exception", "<init>", "(Ljava/lang/String;)V"⟩, ⟨"java/lang/Throwable", "<init>", "()V"⟩, ⟨"java/lang/Throwable", "<init>", "(Ljava/lang/String;)V"⟩]
def enN : List (String × String) := [("ReplayBox$ShelvedRow", "ReplayBox$Bytes"), ("ReplayBox$ShelvedLock", "ReplayBox$Bytes"), ("ReplayBox$ShelvedGate", "ReplayBox$Bytes"), ("ReplayBox$Ints", "ReplayBox$Bytes"), ("ReplayBox$ShelvedRow", "ReplayBox$Ints"), ("ReplayBox$ShelvedLock", "ReplayBox$Ints"), ("ReplayBox$ShelvedGate", "ReplayBox$Ints"), ("ReplayBox$Bytes", "ReplayBox$Ints"), ("java/lang/IllegalStateException", "java/lang/UnsupportedOperationException"), ("java/lang/IllegalArgumentException", "java/lang/UnsupportedOperationException"), ("java/lang/IllegalArgumentException", "java/lang/IllegalStateException"), ("java/lang/UnsupportedOperationException", "java/lang/IllegalStateException"), ("java/lang/IllegalStateException", "java/lang/IllegalArgumentException"), ("java/lang/UnsupportedOperationException", "java/lang/IllegalArgumentException")]
def enS : List (String × Nat × String) := [("ReplayBox$ShelvedLock", 13, "the FAILURE of a LOCK"), ("ReplayBox$Held", 15, "it has no FAILURE"), ("ReplayBox", 184, "there was no run"), ("ReplayBox", 197, "no such THREAD, CELL, LOCAL or what"), ("ReplayBox", 226, "no such place of a ROW"), ("ReplayBox", 314, "no such SHELF"), ("ReplayBox", 319, "no such ROW or place on the SHELF")]
theorem ao_A {t : FieldType} {u U : State} (hvm : u.vm.Alike U.vm) (h : (Cond.arrayOver (.array t)).before #[] u = true) : (Cond.arrayOver (.array t)).before #[] U = true := by
  obtain ⟨comp, c, k, h1, h2, h3, h4, h5⟩ := arrayOverA_spec h
  obtain ⟨k', hk', he⟩ := hvm.2.2 _ _ h3
  have hi : (U.vm.classes.findIdx? fun (x : Class) => match x.kind with | .array component _ => component == comp | _ => false) = some c := by
    have e1 := va_idx_bare U.vm comp
    have e2 := va_idx_bare u.vm comp
    have e3 : U.vm.bare = u.vm.bare := by first | exact hvm.bare_eq | exact hvm.bare_eq.symm
    rw [e3] at e1
    exact (e1.symm.trans e2).trans h2
  have hkind : k'.kind = .array comp (.array t) := by rw [he]; exact h4
  have f1 : U.vm.findClass (FieldType.array t).toString = some comp := by rw [hvm.findClass]; exact h1
  have f2 : U.vm.findClass ("[" ++ (FieldType.array t).toString) = some c := by rw [hvm.findClass]; exact h5
  unfold Cond.before Cond.holds
  simp only [Cond.value]
  rw [f1, Option.bind_some]
  refine (congrArg (fun o : Option Nat => (o.bind (fun c => (U.vm.classes[c]?).map fun (k : Class) => match k.kind with | .array _ ty => decide (ty = FieldType.array t) && decide (U.vm.findClass ("[" ++ (FieldType.array t).toString) = some c) | _ => false) == some true)) hi).trans ?_
  simp [hk', hkind, f2]
def EN (A : Nat → Prop) (U : State) : Prop := (∀ q ∈ enM, va_Nw (.methodLinkNest q.1 q.2.1 q.2.2.1 q.2.2.2) U) ∧ (∀ q ∈ enC, va_Nw (.castable q.1 q.2) U) ∧ (∀ q ∈ enD, va_Nw (.declares q) U) ∧ (∀ q ∈ enN, va_Nc q.1 q.2 U) ∧ (∀ q ∈ enS, ∃ a, vk_R q.1 q.2.1 q.2.2 a U) ∧ va_AO "ReplayBox$Held" U ∧ (Cond.arrayOver (.array .int)).before #[] U = true ∧ vx_Zq Bundle.tN "UNASSIGNED_STACK" Bundle.steD A U U.heap ∧ vx_Zq Bundle.tN "SUPPRESSED_SENTINEL" Bundle.listD A U U.heap
theorem EN.warm {A0 A1 : Nat → Prop} {s U : State} {locs : List Loc} (h : EN A0 s) (hW : s.WarmedH U.vm) (hS : va_S A0 s.heap U.heap locs) (hn : ∀ q, A1 q → A0 q) : EN A1 U := by
  obtain ⟨h1, h2, h3, h4, h5, h6, h7, h8, h9⟩ := h
  refine ⟨fun q hq => va_Nw.warmM hW (h1 q hq), fun q hq => va_Nw.warmC hW (h2 q hq), fun q hq => va_Nw.warmD hW (h3 q hq), fun q hq => (h4 q hq).moved hW.alike, fun q hq => ?_, h6.moved hW.alike, ao_A hW.alike h7, ((h8.kept hS.2.1).moved hW.alike).narrow hn, ((h9.kept hS.2.1).moved hW.alike).narrow hn⟩
  obtain ⟨a, ha⟩ := h5 q hq
  exact ⟨a, vk_R.warm hW ha⟩
theorem EN.blind {A : Nat → Prop} {U : State} {g : JFrame} {mk : MethodId} {a : Array Value} (h : EN A U) : EN A (U.calling g mk a) := EN.warm (U := U.calling g mk a) (locs := []) h (State.WarmedH.refl U) va_S.rf (fun _ q => q)
/-- a word that a throw needs and that isn't among the good ones -/
def enB : Cond → Bool
  | .castable a b => decide ((a, b) ∈ enC)
  | .declares m => decide (m ∈ enD)
  | _ => false
theorem enB_of {w : Cond} {A : Nat → Prop} {U : State} {args : Array Value} (h : enB w = true) (E : EN A U) : w.before args U = true := by
  cases w with
  | castable a b =>
    unfold enB at h
    simp only [decide_eq_true_eq] at h
    exact va_Nw.use rfl (E.2.1 _ h)
  | declares m =>
    unfold enB at h
    simp only [decide_eq_true_eq] at h
    exact va_Nw.use rfl (E.2.2.1 _ h)
  | _ => exact absurd h Bool.false_ne_true
theorem tb_list {L : List Cond} (ix : List Nat) (h : (List.range L.length).all (fun k => decide (tables_1[ix.getD k 0]? = L[k]?)) = true) : ∀ w ∈ L, w ∈ tables_1 := by
  intro w hw
  obtain ⟨k, hk⟩ := List.getElem?_of_mem hw
  have hl : k < L.length := (List.getElem?_eq_some_iff.mp hk).1
  have h1 := List.all_eq_true.mp h k (List.mem_range.mpr hl)
  simp only [decide_eq_true_eq] at h1
  rw [hk] at h1
  exact List.mem_of_getElem? h1
def thN : List String := ["java/lang/RuntimeException", "java/lang/Exception"]
/-- the words of a throw -/
def THR (own : String) (ic : Nat) (E : String) : Prop := ∀ w ∈ vx_atS own ic E thN, (w ∈ TW ∨ enB w = true) ∧ vx_ot w = true
theorem THR_of {own : String} {ic : Nat} {E : String} (h1 : ∀ w ∈ vx_atS own ic E thN, w ∈ tables_1) (h2 : (vx_atS own ic E thN).all (fun w => (goodWord w || enB w) && vx_ot w) = true) : THR own ic E := by
  intro w hw
  have q := List.all_eq_true.mp h2 w hw
  simp only [Bool.and_eq_true, Bool.or_eq_true] at q
  refine ⟨?_, q.2⟩
  rcases q.1 with g | g
  · exact Or.inl (TW_of (List.mem_append_right _ (h1 w hw)) g)
  · exact Or.inr g
theorem THR.hat {own : String} {ic : Nat} {E : String} {A : Nat → Prop} {s : State} {args : Array Value} (t : THR own ic E) (e : EN A s) (hts : ∀ w ∈ TW, w.before args s = true) : ∀ w ∈ vx_atS own ic E thN, w.before args s = true := by
  intro w hw
  rcases (t w hw).1 with g | g
  · exact hts w g
  · exact enB_of g e
set_option maxRecDepth 100000 in
theorem thr_IS : THR RX11 186 "java/lang/IllegalStateException" := THR_of (tb_list [11, 984, 993, 997, 1000, 1002, 985, 986, 29, 30, 987, 992, 998, 1018, 974, 1019, 976, 1020, 978, 988, 990, 980, 1014, 1015, 1017, 980, 1005, 1006, 1007, 1008, 966, 1008, 1009, 1010, 1011, 968, 1011, 1012, 1013, 1014, 970, 1058, 963, 964, 971, 972, 973, 975, 977, 979, 983, 982, 981] (by decide +kernel)) (by decide +kernel)
set_option maxRecDepth 100000 in
theorem thr_IA : THR RX11 199 "java/lang/IllegalArgumentException" := THR_of (tb_list [11, 984, 993, 997, 1000, 1002, 985, 986, 29, 30, 987, 992, 998, 1018, 974, 1019, 976, 1020, 978, 988, 990, 980, 1014, 1015, 1017, 980, 1076, 1077, 1078, 1008, 966, 1008, 1009, 1010, 1011, 968, 1011, 1012, 1013, 1014, 970, 1075, 1066, 1067, 1068, 995, 1069, 1070, 1071, 1072, 983, 982, 1073] (by decide +kernel)) (by decide +kernel)
set_option maxRecDepth 100000 in
theorem thr_UO : THR RX1 17 "java/lang/UnsupportedOperationException" := THR_of (tb_list [11, 984, 993, 997, 1000, 1002, 985, 986, 29, 30, 987, 992, 998, 1018, 974, 1019, 976, 1020, 978, 988, 990, 980, 1014, 1015, 1017, 980, 1043, 1044, 1045, 1008, 966, 1008, 1009, 1010, 1011, 968, 1011, 1012, 1013, 1014, 970, 1042, 1033, 1034, 1035, 996, 1036, 1037, 1038, 1039, 983, 982, 1040] (by decide +kernel)) (by decide +kernel)
set_option maxRecDepth 100000 in
theorem thr_LK : THR RX8 15 "java/lang/IllegalStateException" := THR_of (tb_list [11, 984, 993, 997, 1000, 1002, 985, 986, 29, 30, 987, 992, 998, 1018, 974, 1019, 976, 1020, 978, 988, 990, 980, 1014, 1015, 1017, 980, 1005, 1006, 1007, 1008, 966, 1008, 1009, 1010, 1011, 968, 1011, 1012, 1013, 1014, 970, 1004, 963, 964, 971, 972, 973, 975, 977, 979, 983, 982, 981] (by decide +kernel)) (by decide +kernel)
