/-! what thrown answers; the law's rows for it -/
abbrev cX12_thrown : ByteArray := prog_14_method_2_code
def yX12_thrown : MethodName := ⟨RX12, "thrown", "()I"⟩
theorem CKX12_thrown {rm : Room} (q : ({ frames := 0, cells := 0, slots := 0, locals := 0 } : Room).frames + 1 ≤ rm.frames ∧ 8 + (1 + 11) + ({ frames := 0, cells := 0, slots := 0, locals := 0 } : Room).locals ≤ rm.locals) : CK rm yX12_thrown cX12_thrown 1 (some .int) ({ frames := 0, cells := 0, slots := 0, locals := 0 } : Room) 0 := ⟨(TWt 1373 (by decide +kernel) (by decide +kernel)), (TWt 7 (by decide +kernel) (by decide +kernel)), ⟨by decide, by decide⟩, by decide +kernel, q.1, q.2⟩
theorem dX12_thrown_0 : decode cX12_thrown 0 = .ok (.aload_n 0, 1) := by decide +kernel
theorem dX12_thrown_1 : decode cX12_thrown 1 = .ok (.getfield 164, 3) := by decide +kernel
theorem dX12_thrown_4 : decode cX12_thrown 4 = .ok (.ireturn, 1) := by decide +kernel
theorem MX12_thrown {l0 : Launch} {Y : fj_Y} {ad : Nat → Nat} (h : ph_H) : MI l0 yX12_thrown cX12_thrown 1 (some .int) ({ frames := 0, cells := 0, slots := 0, locals := 0 } : Room) Y ad 50 SM h [.ref (ad 0)] (fun r S' h' => S' = SM ∧ h' = h ∧ r = h 0 0) := met_i (by decide) (Nat.le_of_ble_eq_true rfl) (fun _ _ _ _ => rfl) (fun X C K => j_vl (lv' := [(0, .ref (ad 0))]) (by
  refine j_aload_n C dX12_thrown_0 rfl rfl ?_
  refine gM_164 (v := (h 0 0)) C dX12_thrown_1 rfl ?_
  exact K _ _ _ ⟨rfl, rfl, rfl⟩ _ _ dX12_thrown_4) ⟨rfl, trivial⟩)
section THR
variable {X : lj_X} {Y : fj_Y} {cL : ClassId} {w : lj_W} {cells slots : Nat} {pc : Nat} {lv : List (Nat × Value)} {st : List Value}
theorem l_lald0 (C : LC X Y cL) (hd : decode code pc = .ok (.laload, 1)) (k : LJ X Y cL w cells slots (pc + 1) lv (.long (w.2.2.2 0) :: st)) : LJ X Y cL w cells slots pc lv (.int 0 :: .ref w.2.2.1 :: st) := by
  obtain ⟨⟨p, l, e⟩, ⟨s, m, below, meth, c⟩, ⟨b, L, xs⟩⟩ := X
  obtain ⟨hx, hb, hret, hml, hown, hts, hX, hbl, hlk, hL, htr, hE, hK, hK2⟩ := C
  exact fun H locs ls hW hS hl => va_lald hx hb hK2 hW.2.2.1 0 0 rfl rfl (iv_in (iv_lit (lo := 0) (hi := 0) (x := 0) rfl) rfl) hd (k H locs ls hW hS hl)
theorem l_i2l (C : LC X Y cL) {x : Int32} (hd : decode code pc = .ok (.i2l, 1)) (k : LJ X Y cL w cells slots (pc + 1) lv (.long x.toInt64 :: st)) : LJ X Y cL w cells slots pc lv (.int x :: st) := by
  obtain ⟨⟨p, l, e⟩, ⟨s, m, below, meth, c⟩, ⟨b, L, xs⟩⟩ := X
  obtain ⟨hx, hb, hret, hml, hown, hts, hX, hbl, hlk, hL, htr, hE, hK, hK2⟩ := C
  exact fun H locs ls hW hS hl => lv_i2l hx hb hd rfl (k H locs ls hW hS hl)
theorem l_lcmp (C : LC X Y cL) {x y : Int64} (hd : decode code pc = .ok (.lcmp, 1)) (k : LJ X Y cL w cells slots (pc + 1) lv (.int (lg_cmp x y) :: st)) : LJ X Y cL w cells slots pc lv (.long y :: .long x :: st) := by
  obtain ⟨⟨p, l, e⟩, ⟨s, m, below, meth, c⟩, ⟨b, L, xs⟩⟩ := X
  obtain ⟨hx, hb, hret, hml, hown, hts, hX, hbl, hlk, hL, htr, hE, hK, hK2⟩ := C
  exact fun H locs ls hW hS hl => W.lcmp hx hb hd (k H locs ls hW hS hl)
end THR
theorem cmp_eq0 {x y : Int64} (e : x = y) : lg_cmp x y = 0 := by
  subst e
  unfold lg_cmp
  rw [if_neg (by rw [gt_iff_lt, Int64.lt_iff_toInt_lt]; omega), if_pos rfl]
theorem code_0 {c : Nat} (h : c ≤ 2) (e : Int32.ofNat c = 0) : c = 0 := by
  match c, h with
  | 0, _ => rfl
  | 1, _ => exact absurd e (by decide)
  | 2, _ => exact absurd e (by decide)
theorem vCode_le (a b c : Int32) (h : ph_H) : vCode a b c h ≤ 2 := by
  unfold vCode
  repeat' split
  all_goals decide
theorem pCode_le (a b : Int32) (h : ph_H) : pCode a b h ≤ 2 := by
  unfold pCode
  repeat' split
  all_goals decide
theorem eIA_ne : ¬ eIA = eIS := by decide
theorem x_code {c : Nat} {Ex : String} {r : Int32} (q : xCode Ex c) (d : (Ex = eIA ∧ r = 1) ∨ (Ex = eIS ∧ r = 2)) : r = Int32.ofNat c ∧ ¬ c = 0 := by
  rcases q with ⟨a, b⟩ | ⟨a, b⟩ <;> rcases d with ⟨a', b'⟩ | ⟨a', b'⟩
  · rw [b, b']
    exact ⟨rfl, by decide⟩
  · exact absurd (a.symm.trans a') eIA_ne
  · exact absurd (a'.symm.trans a) eIA_ne
  · rw [b, b']
    exact ⟨rfl, by decide⟩
