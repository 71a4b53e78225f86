/-! the bytes of an instruction -/
abbrev dkB (c : ByteArray) (pc : Nat) (l : List Nat) : Prop := ((c.data.toList.drop pc).take l.length).map UInt8.toNat = l
theorem dk_hd {c : ByteArray} {p b : Nat} {l : List Nat} (h : dkB c p (b :: l)) : (∃ q : p < c.size, c[p].toNat = b) ∧ dkB c (p + 1) l := by
  have h' : ((c.data.toList.drop p).take (l.length + 1)).map UInt8.toNat = b :: l := h
  cases e : c.data.toList.drop p with
  | nil => 
    rw [e] at h'
    simp at h'
  | cons x xs =>
    rw [e, List.take_succ_cons, List.map_cons] at h'
    have h1 := (List.cons.inj h').1
    have h2 := (List.cons.inj h').2
    have lt : p < c.data.toList.length := by
      apply Classical.byContradiction
      intro n
      rw [List.drop_eq_nil_of_le (by omega)] at e
      exact absurd e (by simp)
    have e2 := List.drop_eq_getElem_cons lt
    rw [e] at e2
    have e3 := List.cons.inj e2
    refine ⟨⟨lt, ?_⟩, ?_⟩
    · rw [← h1, e3.1]
      rfl
    · show ((c.data.toList.drop (p + 1)).take l.length).map UInt8.toNat = l
      rw [← e3.2]
      exact h2
theorem dk_u1v {c : ByteArray} {p : Nat} (q : p < c.size) : (Reader.u1 : Decoder Nat) c p = .ok (c[p].toNat, p + 1) := by
  unfold Reader.u1
  change (dite (p < c.size) _ _ : Decoder Nat) c p = _
  rw [dif_pos q]
  rfl
theorem dk_b {α β : Type} {x : Decoder α} {f : α → Decoder β} {c : ByteArray} {p p' : Nat} {a : α} (h : x c p = .ok (a, p')) : (x >>= f) c p = f a c p' := by
  show Except.bind (x c p) (fun v => f v.1 c v.2) = _
  rw [h]
  rfl
theorem dk_u1 {c : ByteArray} {p b : Nat} {l : List Nat} (h : dkB c p (b :: l)) : (Reader.u1 : Decoder Nat) c p = .ok (b, p + 1) := by
  obtain ⟨⟨q, e⟩, -⟩ := dk_hd h
  rw [dk_u1v q, e]
theorem dk_u2 {c : ByteArray} {p a b : Nat} {l : List Nat} (h : dkB c p (a :: b :: l)) : (Reader.u2 : Decoder Nat) c p = .ok (a * 256 + b, p + 2) := by
  unfold Reader.u2
  rw [dk_b (dk_u1 h), dk_b (dk_u1 (dk_hd h).2)]
  rfl
theorem dk_go {c : ByteArray} {pc op n : Nat} {l : List Nat} {i : Instr} {F : Nat → Decoder Instr} (e : Decoder.instr pc = Reader.u1 >>= F) (h : dkB c pc (op :: l)) (k : F op c (pc + 1) = .ok (i, pc + n)) : decode c pc = .ok (i, n) := by
  have r : Decoder.instr pc c pc = .ok (i, pc + n) := by rw [e, dk_b (dk_u1 h)]; exact k
  show Except.bind (Decoder.instr pc c pc) (fun v => .ok (v.1, v.2 - pc)) = _
  rw [r]
  show Except.ok (i, pc + n - pc) = _
  rw [Nat.add_sub_cancel_left]
theorem dk_s1 {c : ByteArray} {p a : Nat} {l : List Nat} (h : dkB c p (a :: l)) : (Reader.s1 : Decoder Int) c p = .ok (Reader.signed 8 a, p + 1) := by
  show Except.bind ((Reader.u1 : Decoder Nat) c p) (fun v => .ok (Reader.signed 8 v.1, v.2)) = _
  rw [dk_u1 h]
  rfl
theorem dk_s2 {c : ByteArray} {p a b : Nat} {l : List Nat} (h : dkB c p (a :: b :: l)) : (Reader.s2 : Decoder Int) c p = .ok (Reader.signed 16 (a * 256 + b), p + 2) := by
  show Except.bind ((Reader.u2 : Decoder Nat) c p) (fun v => .ok (Reader.signed 16 v.1, v.2)) = _
  rw [dk_u2 h]
  rfl
theorem dk_1 {c : ByteArray} {pc : Nat} (h : dkB c pc [1]) : decode c pc = .ok (.aconst_null, 1) := dk_go rfl h rfl
theorem dk_9 {c : ByteArray} {pc : Nat} (h : dkB c pc [9]) : decode c pc = .ok (.lconst 0, 1) := dk_go rfl h rfl
theorem dk_10 {c : ByteArray} {pc : Nat} (h : dkB c pc [10]) : decode c pc = .ok (.lconst 1, 1) := dk_go rfl h rfl
theorem dk_46 {c : ByteArray} {pc : Nat} (h : dkB c pc [46]) : decode c pc = .ok (.iaload, 1) := dk_go rfl h rfl
theorem dk_50 {c : ByteArray} {pc : Nat} (h : dkB c pc [50]) : decode c pc = .ok (.aaload, 1) := dk_go rfl h rfl
theorem dk_51 {c : ByteArray} {pc : Nat} (h : dkB c pc [51]) : decode c pc = .ok (.baload, 1) := dk_go rfl h rfl
theorem dk_79 {c : ByteArray} {pc : Nat} (h : dkB c pc [79]) : decode c pc = .ok (.iastore, 1) := dk_go rfl h rfl
theorem dk_80 {c : ByteArray} {pc : Nat} (h : dkB c pc [80]) : decode c pc = .ok (.lastore, 1) := dk_go rfl h rfl
theorem dk_83 {c : ByteArray} {pc : Nat} (h : dkB c pc [83]) : decode c pc = .ok (.aastore, 1) := dk_go rfl h rfl
theorem dk_84 {c : ByteArray} {pc : Nat} (h : dkB c pc [84]) : decode c pc = .ok (.bastore, 1) := dk_go rfl h rfl
theorem dk_87 {c : ByteArray} {pc : Nat} (h : dkB c pc [87]) : decode c pc = .ok (.pop, 1) := dk_go rfl h rfl
theorem dk_89 {c : ByteArray} {pc : Nat} (h : dkB c pc [89]) : decode c pc = .ok (.dup, 1) := dk_go rfl h rfl
theorem dk_96 {c : ByteArray} {pc : Nat} (h : dkB c pc [96]) : decode c pc = .ok (.iadd, 1) := dk_go rfl h rfl
theorem dk_100 {c : ByteArray} {pc : Nat} (h : dkB c pc [100]) : decode c pc = .ok (.isub, 1) := dk_go rfl h rfl
theorem dk_104 {c : ByteArray} {pc : Nat} (h : dkB c pc [104]) : decode c pc = .ok (.imul, 1) := dk_go rfl h rfl
theorem dk_112 {c : ByteArray} {pc : Nat} (h : dkB c pc [112]) : decode c pc = .ok (.irem, 1) := dk_go rfl h rfl
theorem dk_126 {c : ByteArray} {pc : Nat} (h : dkB c pc [126]) : decode c pc = .ok (.iand, 1) := dk_go rfl h rfl
theorem dk_133 {c : ByteArray} {pc : Nat} (h : dkB c pc [133]) : decode c pc = .ok (.i2l, 1) := dk_go rfl h rfl
theorem dk_148 {c : ByteArray} {pc : Nat} (h : dkB c pc [148]) : decode c pc = .ok (.lcmp, 1) := dk_go rfl h rfl
theorem dk_172 {c : ByteArray} {pc : Nat} (h : dkB c pc [172]) : decode c pc = .ok (.ireturn, 1) := dk_go rfl h rfl
theorem dk_176 {c : ByteArray} {pc : Nat} (h : dkB c pc [176]) : decode c pc = .ok (.areturn, 1) := dk_go rfl h rfl
theorem dk_177 {c : ByteArray} {pc : Nat} (h : dkB c pc [177]) : decode c pc = .ok (.return_, 1) := dk_go rfl h rfl
theorem dk_190 {c : ByteArray} {pc : Nat} (h : dkB c pc [190]) : decode c pc = .ok (.arraylength, 1) := dk_go rfl h rfl
theorem dk_191 {c : ByteArray} {pc : Nat} (h : dkB c pc [191]) : decode c pc = .ok (.athrow, 1) := dk_go rfl h rfl
theorem dk_2 {c : ByteArray} {pc : Nat} (h : dkB c pc [2]) : decode c pc = .ok (.iconst (-1), 1) := dk_go rfl h rfl
theorem dk_3 {c : ByteArray} {pc : Nat} (h : dkB c pc [3]) : decode c pc = .ok (.iconst 0, 1) := dk_go rfl h rfl
theorem dk_4 {c : ByteArray} {pc : Nat} (h : dkB c pc [4]) : decode c pc = .ok (.iconst 1, 1) := dk_go rfl h rfl
theorem dk_5 {c : ByteArray} {pc : Nat} (h : dkB c pc [5]) : decode c pc = .ok (.iconst 2, 1) := dk_go rfl h rfl
theorem dk_6 {c : ByteArray} {pc : Nat} (h : dkB c pc [6]) : decode c pc = .ok (.iconst 3, 1) := dk_go rfl h rfl
theorem dk_7 {c : ByteArray} {pc : Nat} (h : dkB c pc [7]) : decode c pc = .ok (.iconst 4, 1) := dk_go rfl h rfl
theorem dk_8 {c : ByteArray} {pc : Nat} (h : dkB c pc [8]) : decode c pc = .ok (.iconst 5, 1) := dk_go rfl h rfl
theorem dk_26 {c : ByteArray} {pc : Nat} (h : dkB c pc [26]) : decode c pc = .ok (.iload_n 0, 1) := dk_go rfl h rfl
theorem dk_30 {c : ByteArray} {pc : Nat} (h : dkB c pc [30]) : decode c pc = .ok (.lload_n 0, 1) := dk_go rfl h rfl
theorem dk_42 {c : ByteArray} {pc : Nat} (h : dkB c pc [42]) : decode c pc = .ok (.aload_n 0, 1) := dk_go rfl h rfl
theorem dk_59 {c : ByteArray} {pc : Nat} (h : dkB c pc [59]) : decode c pc = .ok (.istore_n 0, 1) := dk_go rfl h rfl
theorem dk_75 {c : ByteArray} {pc : Nat} (h : dkB c pc [75]) : decode c pc = .ok (.astore_n 0, 1) := dk_go rfl h rfl
theorem dk_27 {c : ByteArray} {pc : Nat} (h : dkB c pc [27]) : decode c pc = .ok (.iload_n 1, 1) := dk_go rfl h rfl
theorem dk_31 {c : ByteArray} {pc : Nat} (h : dkB c pc [31]) : decode c pc = .ok (.lload_n 1, 1) := dk_go rfl h rfl
theorem dk_43 {c : ByteArray} {pc : Nat} (h : dkB c pc [43]) : decode c pc = .ok (.aload_n 1, 1) := dk_go rfl h rfl
theorem dk_60 {c : ByteArray} {pc : Nat} (h : dkB c pc [60]) : decode c pc = .ok (.istore_n 1, 1) := dk_go rfl h rfl
theorem dk_76 {c : ByteArray} {pc : Nat} (h : dkB c pc [76]) : decode c pc = .ok (.astore_n 1, 1) := dk_go rfl h rfl
theorem dk_28 {c : ByteArray} {pc : Nat} (h : dkB c pc [28]) : decode c pc = .ok (.iload_n 2, 1) := dk_go rfl h rfl
theorem dk_32 {c : ByteArray} {pc : Nat} (h : dkB c pc [32]) : decode c pc = .ok (.lload_n 2, 1) := dk_go rfl h rfl
theorem dk_44 {c : ByteArray} {pc : Nat} (h : dkB c pc [44]) : decode c pc = .ok (.aload_n 2, 1) := dk_go rfl h rfl
theorem dk_61 {c : ByteArray} {pc : Nat} (h : dkB c pc [61]) : decode c pc = .ok (.istore_n 2, 1) := dk_go rfl h rfl
theorem dk_77 {c : ByteArray} {pc : Nat} (h : dkB c pc [77]) : decode c pc = .ok (.astore_n 2, 1) := dk_go rfl h rfl
theorem dk_29 {c : ByteArray} {pc : Nat} (h : dkB c pc [29]) : decode c pc = .ok (.iload_n 3, 1) := dk_go rfl h rfl
theorem dk_33 {c : ByteArray} {pc : Nat} (h : dkB c pc [33]) : decode c pc = .ok (.lload_n 3, 1) := dk_go rfl h rfl
theorem dk_45 {c : ByteArray} {pc : Nat} (h : dkB c pc [45]) : decode c pc = .ok (.aload_n 3, 1) := dk_go rfl h rfl
theorem dk_62 {c : ByteArray} {pc : Nat} (h : dkB c pc [62]) : decode c pc = .ok (.istore_n 3, 1) := dk_go rfl h rfl
theorem dk_78 {c : ByteArray} {pc : Nat} (h : dkB c pc [78]) : decode c pc = .ok (.astore_n 3, 1) := dk_go rfl h rfl
theorem dk_21 {c : ByteArray} {pc a : Nat} (h : dkB c pc [21, a]) : decode c pc = .ok (.iload a, 2) := dk_go rfl h (dk_b (dk_u1 (dk_hd h).2))
theorem dk_25 {c : ByteArray} {pc a : Nat} (h : dkB c pc [25, a]) : decode c pc = .ok (.aload a, 2) := dk_go rfl h (dk_b (dk_u1 (dk_hd h).2))
theorem dk_54 {c : ByteArray} {pc a : Nat} (h : dkB c pc [54, a]) : decode c pc = .ok (.istore a, 2) := dk_go rfl h (dk_b (dk_u1 (dk_hd h).2))
theorem dk_58 {c : ByteArray} {pc a : Nat} (h : dkB c pc [58, a]) : decode c pc = .ok (.astore a, 2) := dk_go rfl h (dk_b (dk_u1 (dk_hd h).2))
theorem dk_18 {c : ByteArray} {pc a : Nat} (h : dkB c pc [18, a]) : decode c pc = .ok (.ldc a, 2) := dk_go rfl h (dk_b (dk_u1 (dk_hd h).2))
theorem dk_20 {c : ByteArray} {pc a b v : Nat} (h : dkB c pc [20, a, b]) (e : a * 256 + b = v) : decode c pc = .ok (.ldc2_w v, 3) := e ▸ dk_go rfl h (dk_b (dk_u2 (dk_hd h).2))
theorem dk_180 {c : ByteArray} {pc a b v : Nat} (h : dkB c pc [180, a, b]) (e : a * 256 + b = v) : decode c pc = .ok (.getfield v, 3) := e ▸ dk_go rfl h (dk_b (dk_u2 (dk_hd h).2))
theorem dk_181 {c : ByteArray} {pc a b v : Nat} (h : dkB c pc [181, a, b]) (e : a * 256 + b = v) : decode c pc = .ok (.putfield v, 3) := e ▸ dk_go rfl h (dk_b (dk_u2 (dk_hd h).2))
theorem dk_182 {c : ByteArray} {pc a b v : Nat} (h : dkB c pc [182, a, b]) (e : a * 256 + b = v) : decode c pc = .ok (.invokevirtual v, 3) := e ▸ dk_go rfl h (dk_b (dk_u2 (dk_hd h).2))
theorem dk_183 {c : ByteArray} {pc a b v : Nat} (h : dkB c pc [183, a, b]) (e : a * 256 + b = v) : decode c pc = .ok (.invokespecial v, 3) := e ▸ dk_go rfl h (dk_b (dk_u2 (dk_hd h).2))
theorem dk_184 {c : ByteArray} {pc a b v : Nat} (h : dkB c pc [184, a, b]) (e : a * 256 + b = v) : decode c pc = .ok (.invokestatic v, 3) := e ▸ dk_go rfl h (dk_b (dk_u2 (dk_hd h).2))
theorem dk_187 {c : ByteArray} {pc a b v : Nat} (h : dkB c pc [187, a, b]) (e : a * 256 + b = v) : decode c pc = .ok (.new v, 3) := e ▸ dk_go rfl h (dk_b (dk_u2 (dk_hd h).2))
theorem dk_17 {c : ByteArray} {pc a b : Nat} {v : Int} (h : dkB c pc [17, a, b]) (e : Reader.signed 16 (a * 256 + b) = v) : decode c pc = .ok (.sipush v, 3) := e ▸ dk_go rfl h (dk_b (dk_s2 (dk_hd h).2))
theorem dk_167 {c : ByteArray} {pc a b : Nat} {v : Int} (h : dkB c pc [167, a, b]) (e : Reader.signed 16 (a * 256 + b) = v) : decode c pc = .ok (.goto v, 3) := e ▸ dk_go rfl h (dk_b (dk_s2 (dk_hd h).2))
theorem dk_198 {c : ByteArray} {pc a b : Nat} {v : Int} (h : dkB c pc [198, a, b]) (e : Reader.signed 16 (a * 256 + b) = v) : decode c pc = .ok (.ifnull v, 3) := e ▸ dk_go rfl h (dk_b (dk_s2 (dk_hd h).2))
theorem dk_199 {c : ByteArray} {pc a b : Nat} {v : Int} (h : dkB c pc [199, a, b]) (e : Reader.signed 16 (a * 256 + b) = v) : decode c pc = .ok (.ifnonnull v, 3) := e ▸ dk_go rfl h (dk_b (dk_s2 (dk_hd h).2))
theorem dk_153 {c : ByteArray} {pc a b : Nat} {v : Int} (h : dkB c pc [153, a, b]) (e : Reader.signed 16 (a * 256 + b) = v) : decode c pc = .ok (.ifCond .eq v, 3) := e ▸ dk_go rfl h (dk_b (dk_s2 (dk_hd h).2))
theorem dk_159 {c : ByteArray} {pc a b : Nat} {v : Int} (h : dkB c pc [159, a, b]) (e : Reader.signed 16 (a * 256 + b) = v) : decode c pc = .ok (.if_icmp .eq v, 3) := e ▸ dk_go rfl h (dk_b (dk_s2 (dk_hd h).2))
theorem dk_154 {c : ByteArray} {pc a b : Nat} {v : Int} (h : dkB c pc [154, a, b]) (e : Reader.signed 16 (a * 256 + b) = v) : decode c pc = .ok (.ifCond .ne v, 3) := e ▸ dk_go rfl h (dk_b (dk_s2 (dk_hd h).2))
theorem dk_160 {c : ByteArray} {pc a b : Nat} {v : Int} (h : dkB c pc [160, a, b]) (e : Reader.signed 16 (a * 256 + b) = v) : decode c pc = .ok (.if_icmp .ne v, 3) := e ▸ dk_go rfl h (dk_b (dk_s2 (dk_hd h).2))
theorem dk_155 {c : ByteArray} {pc a b : Nat} {v : Int} (h : dkB c pc [155, a, b]) (e : Reader.signed 16 (a * 256 + b) = v) : decode c pc = .ok (.ifCond .lt v, 3) := e ▸ dk_go rfl h (dk_b (dk_s2 (dk_hd h).2))
theorem dk_161 {c : ByteArray} {pc a b : Nat} {v : Int} (h : dkB c pc [161, a, b]) (e : Reader.signed 16 (a * 256 + b) = v) : decode c pc = .ok (.if_icmp .lt v, 3) := e ▸ dk_go rfl h (dk_b (dk_s2 (dk_hd h).2))
theorem dk_156 {c : ByteArray} {pc a b : Nat} {v : Int} (h : dkB c pc [156, a, b]) (e : Reader.signed 16 (a * 256 + b) = v) : decode c pc = .ok (.ifCond .ge v, 3) := e ▸ dk_go rfl h (dk_b (dk_s2 (dk_hd h).2))
theorem dk_162 {c : ByteArray} {pc a b : Nat} {v : Int} (h : dkB c pc [162, a, b]) (e : Reader.signed 16 (a * 256 + b) = v) : decode c pc = .ok (.if_icmp .ge v, 3) := e ▸ dk_go rfl h (dk_b (dk_s2 (dk_hd h).2))
theorem dk_157 {c : ByteArray} {pc a b : Nat} {v : Int} (h : dkB c pc [157, a, b]) (e : Reader.signed 16 (a * 256 + b) = v) : decode c pc = .ok (.ifCond .gt v, 3) := e ▸ dk_go rfl h (dk_b (dk_s2 (dk_hd h).2))
theorem dk_163 {c : ByteArray} {pc a b : Nat} {v : Int} (h : dkB c pc [163, a, b]) (e : Reader.signed 16 (a * 256 + b) = v) : decode c pc = .ok (.if_icmp .gt v, 3) := e ▸ dk_go rfl h (dk_b (dk_s2 (dk_hd h).2))
theorem dk_158 {c : ByteArray} {pc a b : Nat} {v : Int} (h : dkB c pc [158, a, b]) (e : Reader.signed 16 (a * 256 + b) = v) : decode c pc = .ok (.ifCond .le v, 3) := e ▸ dk_go rfl h (dk_b (dk_s2 (dk_hd h).2))
theorem dk_164 {c : ByteArray} {pc a b : Nat} {v : Int} (h : dkB c pc [164, a, b]) (e : Reader.signed 16 (a * 256 + b) = v) : decode c pc = .ok (.if_icmp .le v, 3) := e ▸ dk_go rfl h (dk_b (dk_s2 (dk_hd h).2))
theorem dk_16 {c : ByteArray} {pc a : Nat} {v : Int} (h : dkB c pc [16, a]) (e : Reader.signed 8 a = v) : decode c pc = .ok (.bipush v, 2) := e ▸ dk_go rfl h (dk_b (dk_s1 (dk_hd h).2))
theorem dk_132 {c : ByteArray} {pc a b : Nat} {v : Int} (h : dkB c pc [132, a, b]) (e : Reader.signed 8 b = v) : decode c pc = .ok (.iinc a v, 3) := e ▸ dk_go rfl h ((dk_b (dk_u1 (dk_hd h).2)).trans (dk_b (dk_s1 (dk_hd (dk_hd h).2).2)))
