/-! THE LAW'S LOOP -/
theorem and31 (x : Int32) : ∃ k : Nat, k < 32 ∧ x &&& 31 = Int32.ofNat k := by
  refine ⟨(x &&& 31).toBitVec.toNat, ?_, ?_⟩
  · rw [Int32.toBitVec_and, BitVec.toNat_and]
    have : x.toBitVec.toNat &&& (31 : Int32).toBitVec.toNat ≤ (31 : Int32).toBitVec.toNat := Nat.and_le_right
    exact Nat.lt_of_le_of_lt this (by decide)
  · apply Int32.toBitVec_inj.mp
    rw [Int32.toBitVec_ofNat']
    exact BitVec.eq_of_toNat_eq (by rw [BitVec.toNat_ofNat]; exact (Nat.mod_eq_of_lt (BitVec.isLt _)).symm)
section LLOOP
variable {X : lj_X} {Y : fj_Y} {cL : ClassId} {cells slots : Nat} {n : Nat} {ad : Nat → Nat} {S : ph_S} {h : ph_H} {adm : Nat → Nat} {hm : ph_H} {o : Nat} {f : Nat → Int64} {pr : Nat} {i : Int32} {z : zT}
set_option maxRecDepth 100000 in
theorem LL_all (C : LC X Y cL) (A : LA X i) (V : WS pr n S) (ks : KS n S h) (I : CT z h) (J : IT z hm) (P : LO h hm) (hc : cells + 2 ≤ 601024 ∧ slots + 62 ≤ 7293034) (K : LK X Y cL ad adm o i (cells + 2) (slots + 62)) (x : Int32) : LJ X Y cL ((n, ad, S, h), (adm, hm), (o, f)) cells slots 40 (lvL X (ad 0) (adm 0) o i) [.int (x &&& 31)] := by
  obtain ⟨k, hk, e⟩ := and31 x
  rw [e]
  match k, hk with
  | 0, _ => exact l_tableIn (tgt := 184) (off := 144) C dL_law_40 (by decide) (by decide) rfl (by decide) (LL_0 C A V ks I J P hc K)
  | 1, _ => exact l_tableIn (tgt := 257) (off := 217) C dL_law_40 (by decide) (by decide) rfl (by decide) (LL_1 C A V ks I J P hc K)
  | 2, _ => exact l_tableIn (tgt := 282) (off := 242) C dL_law_40 (by decide) (by decide) rfl (by decide) (LL_2 C A V ks I J P hc K)
  | 3, _ => exact l_tableIn (tgt := 319) (off := 279) C dL_law_40 (by decide) (by decide) rfl (by decide) (LL_3 C A V ks I J P hc K)
  | 4, _ => exact l_tableIn (tgt := 344) (off := 304) C dL_law_40 (by decide) (by decide) rfl (by decide) (LL_4 C A V ks I J P hc K)
  | 5, _ => exact l_tableIn (tgt := 381) (off := 341) C dL_law_40 (by decide) (by decide) rfl (by decide) (LL_5 C A V ks I J P hc K)
  | 6, _ => exact l_tableIn (tgt := 394) (off := 354) C dL_law_40 (by decide) (by decide) rfl (by decide) (LL_6 C A V ks I J P hc K)
  | 7, _ => exact l_tableIn (tgt := 407) (off := 367) C dL_law_40 (by decide) (by decide) rfl (by decide) (LL_7 C A V ks I J P hc K)
  | 8, _ => exact l_tableIn (tgt := 432) (off := 392) C dL_law_40 (by decide) (by decide) rfl (by decide) (LL_8 C A V ks I J P hc K)
  | 9, _ => exact l_tableIn (tgt := 469) (off := 429) C dL_law_40 (by decide) (by decide) rfl (by decide) (LL_9 C A V ks I J P hc K)
  | 10, _ => exact l_tableIn (tgt := 506) (off := 466) C dL_law_40 (by decide) (by decide) rfl (by decide) (LL_10 C A V ks I J P hc K)
  | 11, _ => exact l_tableIn (tgt := 543) (off := 503) C dL_law_40 (by decide) (by decide) rfl (by decide) (LL_11 C A V ks I J P hc K)
  | 12, _ => exact l_tableIn (tgt := 556) (off := 516) C dL_law_40 (by decide) (by decide) rfl (by decide) (LL_12 C A V ks I J P hc K)
  | 13, _ => exact l_tableIn (tgt := 581) (off := 541) C dL_law_40 (by decide) (by decide) rfl (by decide) (LL_13 C A V ks I J P hc K)
  | 14, _ => exact l_tableIn (tgt := 606) (off := 566) C dL_law_40 (by decide) (by decide) rfl (by decide) (LL_14 C A V ks I J P hc K)
  | 15, _ => exact l_tableIn (tgt := 658) (off := 618) C dL_law_40 (by decide) (by decide) rfl (by decide) (LL_15 C A V ks I J P hc K)
  | 16, _ => exact l_tableIn (tgt := 695) (off := 655) C dL_law_40 (by decide) (by decide) rfl (by decide) (LL_16 C A V ks I J P hc K)
  | 17, _ => exact l_tableIn (tgt := 735) (off := 695) C dL_law_40 (by decide) (by decide) rfl (by decide) (LL_17 C A V ks I J P hc K)
  | 18, _ => exact l_tableIn (tgt := 772) (off := 732) C dL_law_40 (by decide) (by decide) rfl (by decide) (LL_18 C A V ks I J P hc K)
  | 19, _ => exact l_tableIn (tgt := 809) (off := 769) C dL_law_40 (by decide) (by decide) rfl (by decide) (LL_19 C A V ks I J P hc K)
  | 20, _ => exact l_tableIn (tgt := 846) (off := 806) C dL_law_40 (by decide) (by decide) rfl (by decide) (LL_20 C A V ks I J P hc K)
  | 21, _ => exact l_tableIn (tgt := 907) (off := 867) C dL_law_40 (by decide) (by decide) rfl (by decide) (LL_21 C A V ks I J P hc K)
  | 22, _ => exact l_tableIn (tgt := 944) (off := 904) C dL_law_40 (by decide) (by decide) rfl (by decide) (LL_22 C A V ks I J P hc K)
  | 23, _ => exact l_tableIn (tgt := 981) (off := 941) C dL_law_40 (by decide) (by decide) rfl (by decide) (LL_23 C A V ks I J P hc K)
  | 24, _ => exact l_tableIn (tgt := 1018) (off := 978) C dL_law_40 (by decide) (by decide) rfl (by decide) (LL_24 C A V ks I J P hc K)
  | 25, _ => exact l_tableIn (tgt := 1055) (off := 1015) C dL_law_40 (by decide) (by decide) rfl (by decide) (LL_25 C A V ks I J P hc K)
  | 26, _ => exact l_tableIn (tgt := 1080) (off := 1040) C dL_law_40 (by decide) (by decide) rfl (by decide) (LL_26 C A V ks I J P hc K)
  | 27, _ => exact l_tableIn (tgt := 1129) (off := 1089) C dL_law_40 (by decide) (by decide) rfl (by decide) (LL_27 C A V ks I J P hc K)
  | 28, _ => exact l_tableIn (tgt := 1178) (off := 1138) C dL_law_40 (by decide) (by decide) rfl (by decide) (LL_28 C A V ks I J P hc K)
  | 29, _ => exact l_tableIn (tgt := 1218) (off := 1178) C dL_law_40 (by decide) (by decide) rfl (by decide) (LL_29 C A V ks I J P hc K)
  | 30, _ => exact l_tableIn (tgt := 1291) (off := 1251) C dL_law_40 (by decide) (by decide) rfl (by decide) (LL_30 C A V ks I J P hc K)
  | 31, _ => exact l_tableIn (tgt := 1316) (off := 1276) C dL_law_40 (by decide) (by decide) rfl (by decide) (LL_31 C A V ks I J P hc K)
  | (q + 32), hk => exact absurd hk (by omega)
theorem nI_vp {c N : Nat} (h : c < N) (hN : N < 2 ^ 31) : vp_in (nI c) N := nI_in h hN
theorem LA_of {j L : Nat} (e : X.2.2.2.1 = L) (hj : 6 * j + 6 ≤ L) (hL : L ≤ 3072) : LA X (nI (6 * j)) := by
  intro v hv
  rw [e]
  have h0 : (0 : Int32).toInt = 0 := by decide
  unfold iv at hv
  obtain ⟨k, hk, ev⟩ := nI_of (x := v) (by rw [Int32.lt_iff_toInt_lt]; omega)
  subst ev
  rw [nI_toInt hk] at hv
  rw [nI_add]
  exact nI_vp (by omega) (by omega)
set_option maxRecDepth 100000 in
theorem L_loop (C : LC X Y cL) : ∀ (k j : Nat) (z : zT) (pr n : Nat) (ad : Nat → Nat) (S : ph_S) (h hm : ph_H) (f : Nat → Int64) (cells slots : Nat), j + k = 512 → WS pr n S → KS n S h → CT z h → IT z hm → LO h hm → cells + 2 * k ≤ 601024 → slots + 62 * k ≤ 7293034 → LJ X Y cL ((n, ad, S, h), (adm, hm), (o, f)) cells slots 23 (lvL X (ad 0) (adm 0) o (nI (6 * j))) [] := by
  have hL : X.2.2.2.1 ≤ 3072 := by
    obtain ⟨⟨p, l, e⟩, ⟨s, m, below, meth, c⟩, ⟨b, L, xs⟩⟩ := X
    obtain ⟨hx, hb, hret, hml, hown, hts, hX, hbl, hlk, hL, htr, hE, hK, hK2⟩ := C
    exact hL
  intro k
  induction k with
  | zero =>
    intro j z pr n ad S h hm f cells slots hj V ks I J P h1 h2
    refine l_iload C dL_law_23 rfl ?_
    refine l_aload_n C dL_law_25 rfl rfl ?_
    refine l_slen C dL_law_26 ?_
    refine l_bipush (v := 6) C dL_law_27 (by decide) ?_
    refine l_isub C dL_law_29 ?_
    refine l_icmp_gt (tgt := 1347) C dL_law_30 (by decide) (fun _ => ?_) (fun q => absurd ?_ q)
    · refine l_iconst (v := 1) C dL_law_1347 (by decide) ?_
      exact l_end C dL_law_1348 (by omega) (by omega)
    · show nI X.2.2.2.1 - 6 < nI (6 * j)
      rw [Int32.lt_iff_toInt_lt, Int32.toInt_sub, nI_toInt (by omega), nI_toInt (by omega), show (6 : Int32).toInt = 6 from by decide, bm_in (by omega) (by omega)]
      omega
  | succ k ih =>
    intro j z pr n ad S h hm f cells slots hj V ks I J P h1 h2
    refine l_iload C dL_law_23 rfl ?_
    refine l_aload_n C dL_law_25 rfl rfl ?_
    refine l_slen C dL_law_26 ?_
    refine l_bipush (v := 6) C dL_law_27 (by decide) ?_
    refine l_isub C dL_law_29 ?_
    refine l_icmp_gt (tgt := 1347) C dL_law_30 (by decide) (fun _ => ?_) (fun q => ?_)
    · refine l_iconst (v := 1) C dL_law_1347 (by decide) ?_
      exact l_end C dL_law_1348 (by omega) (by omega)
    · have q : ¬ nI X.2.2.2.1 - 6 < nI (6 * j) := q
      rw [Int32.lt_iff_toInt_lt, Int32.toInt_sub, nI_toInt (by omega), nI_toInt (by omega), show (6 : Int32).toInt = 6 from by decide, bm_in (by omega) (by omega)] at q
      have hin : 6 * j + 6 ≤ X.2.2.2.1 := by omega
      have A : LA X (nI (6 * j)) := LA_of rfl hin hL
      refine l_aload_n C dL_law_33 rfl rfl ?_
      refine l_iload C dL_law_34 rfl ?_
      refine l_sld C dL_law_36 (nI_vp (by omega) (by omega)) rfl ?_
      refine l_bipush (v := 31) C dL_law_37 (by decide) ?_
      refine l_iand C dL_law_39 ?_
      refine LL_all C A V ks I J P ⟨by omega, by omega⟩ (fun z' pr' n' ad' S' h' hm' f' e V' ks' I' J' P' => ?_) _
      refine l_iinc (v := nI (6 * (j + 1))) C dL_law_1341 rfl (by rw [show (6 * (j + 1)) = 6 * j + 6 from by omega, ← nI_add]; rfl) (by decide) rfl ?_
      refine l_goto (tgt := 23) C dL_law_1344 (by decide) ?_
      refine l_vl (lv' := lvL X (ad 0) (adm 0) o (nI (6 * (j + 1)))) ?_ ⟨rfl, rfl, rfl, rfl, rfl, trivial⟩
      rw [← e]
      exact ih (j + 1) z' pr' n' ad' S' h' hm' f' (cells + 2) (slots + 62) (by omega) V' ks' I' J' P' (by omega) (by omega)
end LLOOP
