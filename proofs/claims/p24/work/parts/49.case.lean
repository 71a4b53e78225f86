/-! THE LAW'S CASES -/
def lvL (X : lj_X) (a m o : Nat) (i : Int32) : List (Nat × Value) := [(0, .ref (lb X)), (1, .ref a), (2, .ref m), (3, .ref o), (4, .int i)]
def LK (X : lj_X) (Y : fj_Y) (cL : ClassId) (ad adm : Nat → Nat) (o : Nat) (i : Int32) (c s : Nat) : Prop := ∀ (z : zT) (pr n : Nat) (ad' : Nat → Nat) (S : ph_S) (h hm : ph_H) (f : Nat → Int64), ad' 0 = ad 0 → WS pr n S → KS n S h → CT z h → IT z hm → LO h hm → LJ X Y cL ((n, ad', S, h), (adm, hm), (o, f)) c s 1341 (lvL X (ad 0) (adm 0) o i) []
theorem LC.tr {X : lj_X} {Y : fj_Y} {cL : ClassId} (C : LC X Y cL) : X.1.2.1.stackTraces = false := by
  obtain ⟨⟨p, l, e⟩, ⟨s, m, below, meth, c⟩, ⟨b, L, xs⟩⟩ := X
  obtain ⟨hx, hb, hret, hml, hown, hts, hX, hbl, hlk, hL, htr, hE, hK, hK2⟩ := C
  exact htr
theorem pH_vH (h : ph_H) : vH h (pH h) := by
  unfold pH
  split
  · exact Or.inl rfl
  · exact Or.inr rfl
theorem LR_kp {z : zT} {h h' g : ph_H} (P : LR h g) (J : IT z g) (q : kpH h h') : LR h' g := by
  rcases q with rfl | rfl
  · exact P
  · exact LR_sb35 P J
theorem OR_kp {h h' g : ph_H} (P : OR h g) (q : kpH h h') : OR h' g := by
  rcases q with rfl | rfl
  · exact P
  · exact OR_sb P _
theorem kp_CT {z z1 : zT} {h h' : ph_H} (m : zmC z z1) (I : IC z1 h) (q : kpH h h') : CT z h' := by
  rcases q with rfl | rfl
  · exact ⟨z1, m, I⟩
  · exact ⟨z1, m, (SX11_seenBehind _ h I (ICv I 35 11)).2⟩
theorem xC_or {E : String} {c : Nat} (q : xCode E c) : E = eIA ∨ E = eIS := q.elim (fun q => Or.inl q.1) (fun q => Or.inr q.1)
theorem sb_CT {z z1 : zT} {h : ph_H} (m : zmC z z1) (I : IC z1 h) : CT z (FX11_seenBehind (h 0 10) h) := ⟨z1, m, (SX11_seenBehind _ h I (ICv I 0 10)).2⟩
theorem pH_CT {z z1 : zT} {h : ph_H} (m : zmC z z1) (I : IC z1 h) : CT z (pH h) := by
  unfold pH
  split
  · exact ⟨z1, m, I⟩
  · exact sb_CT m I
theorem hv_post {z z1 : zT} {h : ph_H} {ad : Nat → Nat} {S : ph_S} {f : Nat → Int64} {a0 a1 a2 r : Int32} {u : gU × (Nat → Int64)} (m : zmC z z1) (I : IC z1 h) (q : hPost (fun r u => vCode a0 a1 a2 h = 0 ∧ r = vR a0 a1 a2 h ∧ u = (60, ad, S, FX11_seenBehind (h 0 10) h)) (fun Ex u => xCode Ex (vCode a0 a1 a2 h) ∧ u = (60, ad, S, h)) f r u) : ∃ h', u.1 = (60, ad, S, h') ∧ CT z h' ∧ vH h h' := by
  rcases q with ⟨v, ⟨-, -, e⟩, -⟩ | ⟨⟨-, e⟩, -⟩ | ⟨⟨-, e⟩, -⟩
  · exact ⟨_, e, sb_CT m I, Or.inr rfl⟩
  · exact ⟨_, e, ⟨z1, m, I⟩, Or.inl rfl⟩
  · exact ⟨_, e, ⟨z1, m, I⟩, Or.inl rfl⟩
theorem hp_post {z z1 : zT} {h : ph_H} {ad : Nat → Nat} {S : ph_S} {f : Nat → Int64} {a0 a1 r : Int32} {u : gU × (Nat → Int64)} (m : zmC z z1) (I : IC z1 h) (q : hPost (fun r u => pCode a0 a1 h = 0 ∧ r = pR a0 a1 h ∧ u = (60, ad, S, pH h)) (fun Ex u => xCode Ex (pCode a0 a1 h) ∧ u = (60, ad, S, pH h)) f r u) : ∃ h', u.1 = (60, ad, S, h') ∧ CT z h' ∧ vH h h' := by
  rcases q with ⟨v, ⟨-, -, e⟩, -⟩ | ⟨⟨-, e⟩, -⟩ | ⟨⟨-, e⟩, -⟩
  · exact ⟨_, e, pH_CT m I, pH_vH h⟩
  · exact ⟨_, e, pH_CT m I, pH_vH h⟩
  · exact ⟨_, e, pH_CT m I, pH_vH h⟩
theorem he_post {n : Nat} {h : ph_H} {ad : Nat → Nat} {S : ph_S} {f : Nat → Int64} {r : Int32} {u : gU × (Nat → Int64)} (q : hPost (PZ n ad S h) (fun Ex u => (Ex = eIA ∨ Ex = eIS) ∧ u = (n, ad, S, h)) f r u) : u.1 = (n, ad, S, h) := by
  rcases q with ⟨v, e, -⟩ | ⟨⟨-, e⟩, -⟩ | ⟨⟨-, e⟩, -⟩
  · exact e
  · exact e
  · exact e
theorem pd_L_value : (parseMethodDescriptor yL_value.desc).map (fun d => d.parameters.length) = some 5 := by decide +kernel
theorem pd_L_place : (parseMethodDescriptor yL_place.desc).map (fun d => d.parameters.length) = some 4 := by decide +kernel
theorem pd_L_element : (parseMethodDescriptor yL_element.desc).map (fun d => d.parameters.length) = some 4 := by decide +kernel
section LCASE
variable {X : lj_X} {Y : fj_Y} {cL : ClassId} {cells slots : Nat} {n : Nat} {ad : Nat → Nat} {S : ph_S} {h : ph_H} {adm : Nat → Nat} {hm : ph_H} {o : Nat} {f : Nat → Int64} {pr : Nat} {i : Int32} {z : zT}
set_option maxRecDepth 100000 in
theorem LL_0 (C : LC X Y cL) (A : LA X i) (V : WS pr n S) (ks : KS n S h) (I : CT z h) (J : IT z hm) (P : LO h hm) (hc : cells + 2 ≤ 601024 ∧ slots + 62 ≤ 7293034) (K : LK X Y cL ad adm o i (cells + 2) (slots + 62)) : LJ X Y cL ((n, ad, S, h), (adm, hm), (o, f)) cells slots 184 (lvL X (ad 0) (adm 0) o i) [] := by
  have V6 : WS pr 60 S := ⟨Nat.le_refl _, V.2⟩
  refine l_aload_n C dL_law_184 rfl rfl ?_
  refine l_arg (v := 1) C A dL_law_185 dL_law_186 dL_law_188 dL_law_189 dL_law_190 rfl rfl (by decide) rfl ?_
  refine l_arg (v := 2) C A dL_law_191 dL_law_192 dL_law_194 dL_law_195 dL_law_196 rfl rfl (by decide) rfl ?_
  refine l_arg (v := 3) C A dL_law_197 dL_law_198 dL_law_200 dL_law_201 dL_law_202 rfl rfl (by decide) rfl ?_
  refine l_arg (v := 4) C A dL_law_203 dL_law_204 dL_law_206 dL_law_207 dL_law_208 rfl rfl (by decide) rfl ?_
  refine l_arg (v := 5) C A dL_law_209 dL_law_210 dL_law_212 dL_law_213 dL_law_214 rfl rfl (by decide) rfl ?_
  have sc := SX11_code (z := z) (la X i 1) (la X i 2) (la X i 3) (la X i 4) (la X i 5) h I
  refine l_C C (R := fun r h' => (r = zcR z (la X i 1) (la X i 2) ∧ CT (zcZ z (la X i 1) (la X i 2)) h') ∧ h' = (FX11_code (la X i 1) (la X i 2) (la X i 3) (la X i 4) (la X i 5) h).2 ∧ r = (FX11_code (la X i 1) (la X i 2) (la X i 3) (la X i 4) (la X i 5) h).1) (MX11_code V6 (la X i 1) (la X i 2) (la X i 3) (la X i 4) (la X i 5) h sc.1) (fun r S' h' q => ⟨Or.inl q.1, ⟨by rw [q.2.2]; exact sc.2.1, by rw [q.2.1]; exact sc.2.2⟩, q.2.1, q.2.2⟩) V ks dL_law_215 (CKX11_code (by decide)) ⟨rfl, rfl⟩ lk_RL_28 in_X11_code se_X11_code rfl rfl (Nat.le_of_ble_eq_true rfl) hc (fun r1 pr1 n1 ad1 S1 h1 h2 q1 lo1 e1 V1 ks1 => ?_)
  have I1 := CT_low q1.1.2 lo1
  refine l_pop C dL_law_218 rfl ?_
  refine l_aload_n C dL_law_219 rfl rfl ?_
  refine l_arg (v := 1) C A dL_law_220 dL_law_221 dL_law_223 dL_law_224 dL_law_225 rfl rfl (by decide) rfl ?_
  refine l_arg (v := 2) C A dL_law_226 dL_law_227 dL_law_229 dL_law_230 dL_law_231 rfl rfl (by decide) rfl ?_
  refine l_arg (v := 3) C A dL_law_232 dL_law_233 dL_law_235 dL_law_236 dL_law_237 rfl rfl (by decide) rfl ?_
  refine l_arg (v := 4) C A dL_law_238 dL_law_239 dL_law_241 dL_law_242 dL_law_243 rfl rfl (by decide) rfl ?_
  refine l_arg (v := 5) C A dL_law_244 dL_law_245 dL_law_247 dL_law_248 dL_law_249 rfl rfl (by decide) rfl ?_
  have sr := SX12_code (z := z) (la X i 1) (la X i 2) (la X i 3) (la X i 4) (la X i 5) hm J
  refine l_M (w := ((n1, ad1, S1, h2), (adm, hm), (o, f))) C (R := fun r h' => (r = zcR z (la X i 1) (la X i 2) ∧ IT (zcZ z (la X i 1) (la X i 2)) h') ∧ h' = (FX12_code (la X i 1) (la X i 2) (la X i 3) (la X i 4) (la X i 5) hm).2 ∧ r = (FX12_code (la X i 1) (la X i 2) (la X i 3) (la X i 4) (la X i 5) hm).1) (MX12_code (la X i 1) (la X i 2) (la X i 3) (la X i 4) (la X i 5) hm sr.1) (fun r S' h' q => ⟨q.1, ⟨by rw [q.2.2]; exact sr.2.1, by rw [q.2.1]; exact sr.2.2⟩, q.2.1, q.2.2⟩) dL_law_250 (CKX12_code (by decide)) ⟨rfl, rfl⟩ lk_RL_32 in_X12_code se_X12_code rfl rfl (Nat.le_of_ble_eq_true rfl) hc (fun r2 hm2 q2 => ?_)
  have J1 := q2.1.2
  have P1 : LO h2 hm2 := ⟨LR_low (by rw [q1.2.1, q2.2.1]; exact LR_code P.1 J (la X i 1) (la X i 2) (la X i 3) (la X i 4) (la X i 5)) lo1, OR_low (by rw [q1.2.1, q2.2.1]; exact OR_fr P.2 (frE_FX11_code _ _ _ _ _ h (EQ_r h)) (frVE_FX12_code _ _ _ _ _ hm (EQ_r hm))) lo1⟩
  refine l_pop C dL_law_253 rfl ?_
  refine l_goto (tgt := 1341) C dL_law_254 (by decide) ?_
  exact K _ _ _ _ _ _ _ _ e1 V1 ks1 I1 J1 P1
set_option maxRecDepth 100000 in
theorem LL_1 (C : LC X Y cL) (A : LA X i) (V : WS pr n S) (ks : KS n S h) (I : CT z h) (J : IT z hm) (P : LO h hm) (hc : cells + 2 ≤ 601024 ∧ slots + 62 ≤ 7293034) (K : LK X Y cL ad adm o i (cells + 2) (slots + 62)) : LJ X Y cL ((n, ad, S, h), (adm, hm), (o, f)) cells slots 257 (lvL X (ad 0) (adm 0) o i) [] := by
  have V6 : WS pr 60 S := ⟨Nat.le_refl _, V.2⟩
  refine l_aload_n C dL_law_257 rfl rfl ?_
  refine l_arg (v := 1) C A dL_law_258 dL_law_259 dL_law_261 dL_law_262 dL_law_263 rfl rfl (by decide) rfl ?_
  have sc := SX11_clear (z := z) (la X i 1) h I
  refine l_C C (R := fun r h' => (r = zlR z (la X i 1) ∧ CT (zlZ z (la X i 1)) h') ∧ h' = (FX11_clear (la X i 1) h).2 ∧ r = (FX11_clear (la X i 1) h).1) (MX11_clear V6 (la X i 1) h sc.1) (fun r S' h' q => ⟨Or.inl q.1, ⟨by rw [q.2.2]; exact sc.2.1, by rw [q.2.1]; exact sc.2.2⟩, q.2.1, q.2.2⟩) V ks dL_law_264 (CKX11_clear (by decide)) ⟨rfl, rfl⟩ lk_RL_33 in_X11_clear se_X11_clear rfl rfl (Nat.le_of_ble_eq_true rfl) hc (fun r1 pr1 n1 ad1 S1 h1 h2 q1 lo1 e1 V1 ks1 => ?_)
  have I1 := CT_low q1.1.2 lo1
  refine l_pop C dL_law_267 rfl ?_
  refine l_aload_n C dL_law_268 rfl rfl ?_
  refine l_arg (v := 1) C A dL_law_269 dL_law_270 dL_law_272 dL_law_273 dL_law_274 rfl rfl (by decide) rfl ?_
  have sr := SX12_clear (z := z) (la X i 1) hm J
  refine l_M (w := ((n1, ad1, S1, h2), (adm, hm), (o, f))) C (R := fun r h' => (r = zlR z (la X i 1) ∧ IT (zlZ z (la X i 1)) h') ∧ h' = (FX12_clear (la X i 1) hm).2 ∧ r = (FX12_clear (la X i 1) hm).1) (MX12_clear (la X i 1) hm sr.1) (fun r S' h' q => ⟨q.1, ⟨by rw [q.2.2]; exact sr.2.1, by rw [q.2.1]; exact sr.2.2⟩, q.2.1, q.2.2⟩) dL_law_275 (CKX12_clear (by decide)) ⟨rfl, rfl⟩ lk_RL_37 in_X12_clear se_X12_clear rfl rfl (Nat.le_of_ble_eq_true rfl) hc (fun r2 hm2 q2 => ?_)
  have J1 := q2.1.2
  have P1 : LO h2 hm2 := ⟨LR_low (by rw [q1.2.1, q2.2.1]; exact LR_clear P.1 J (la X i 1)) lo1, OR_low (by rw [q1.2.1, q2.2.1]; exact OR_fr P.2 (frE_FX11_clear _ h (EQ_r h)) (frVE_FX12_clear _ hm (EQ_r hm))) lo1⟩
  refine l_pop C dL_law_278 rfl ?_
  refine l_goto (tgt := 1341) C dL_law_279 (by decide) ?_
  exact K _ _ _ _ _ _ _ _ e1 V1 ks1 I1 J1 P1
set_option maxRecDepth 100000 in
theorem LL_2 (C : LC X Y cL) (A : LA X i) (V : WS pr n S) (ks : KS n S h) (I : CT z h) (J : IT z hm) (P : LO h hm) (hc : cells + 2 ≤ 601024 ∧ slots + 62 ≤ 7293034) (K : LK X Y cL ad adm o i (cells + 2) (slots + 62)) : LJ X Y cL ((n, ad, S, h), (adm, hm), (o, f)) cells slots 282 (lvL X (ad 0) (adm 0) o i) [] := by
  have V6 : WS pr 60 S := ⟨Nat.le_refl _, V.2⟩
  refine l_aload_n C dL_law_282 rfl rfl ?_
  refine l_arg (v := 1) C A dL_law_283 dL_law_284 dL_law_286 dL_law_287 dL_law_288 rfl rfl (by decide) rfl ?_
  refine l_arg (v := 2) C A dL_law_289 dL_law_290 dL_law_292 dL_law_293 dL_law_294 rfl rfl (by decide) rfl ?_
  have sc := SX11_cell_T (z := z) (la X i 1) (la X i 2) h I
  refine l_C C (R := fun r h' => (r = zeR (la X i 1) ∧ CT (z) h') ∧ h' = (FX11_cell (la X i 1) (la X i 2) h).2 ∧ r = (FX11_cell (la X i 1) (la X i 2) h).1) (MX11_cell V6 (la X i 1) (la X i 2) h sc.1) (fun r S' h' q => ⟨Or.inl q.1, ⟨by rw [q.2.2]; exact sc.2.1, by rw [q.2.1]; exact sc.2.2⟩, q.2.1, q.2.2⟩) V ks dL_law_295 (CKX11_cell (by decide)) ⟨rfl, rfl⟩ lk_RL_38 in_X11_cell se_X11_cell rfl rfl (Nat.le_of_ble_eq_true rfl) hc (fun r1 pr1 n1 ad1 S1 h1 h2 q1 lo1 e1 V1 ks1 => ?_)
  have I1 := CT_low q1.1.2 lo1
  refine l_pop C dL_law_298 rfl ?_
  refine l_aload_n C dL_law_299 rfl rfl ?_
  refine l_arg (v := 1) C A dL_law_300 dL_law_301 dL_law_303 dL_law_304 dL_law_305 rfl rfl (by decide) rfl ?_
  refine l_arg (v := 2) C A dL_law_306 dL_law_307 dL_law_309 dL_law_310 dL_law_311 rfl rfl (by decide) rfl ?_
  have sr := SX12_cell_T (z := z) (la X i 1) (la X i 2) hm J
  refine l_M (w := ((n1, ad1, S1, h2), (adm, hm), (o, f))) C (R := fun r h' => (r = zeR (la X i 1) ∧ IT (z) h') ∧ h' = (FX12_cell (la X i 1) (la X i 2) hm).2 ∧ r = (FX12_cell (la X i 1) (la X i 2) hm).1) (MX12_cell (la X i 1) (la X i 2) hm sr.1) (fun r S' h' q => ⟨q.1, ⟨by rw [q.2.2]; exact sr.2.1, by rw [q.2.1]; exact sr.2.2⟩, q.2.1, q.2.2⟩) dL_law_312 (CKX12_cell (by decide)) ⟨rfl, rfl⟩ lk_RL_41 in_X12_cell se_X12_cell rfl rfl (Nat.le_of_ble_eq_true rfl) hc (fun r2 hm2 q2 => ?_)
  have J1 := q2.1.2
  have P1 : LO h2 hm2 := ⟨LR_low (by rw [q1.2.1, q2.2.1]; exact LR_cell P.1 J (la X i 1) (la X i 2)) lo1, OR_low (by rw [q1.2.1, q2.2.1]; exact OR_fr P.2 (frE_FX11_cell _ _ h (EQ_r h)) (frVE_FX12_cell _ _ hm (EQ_r hm))) lo1⟩
  refine l_pop C dL_law_315 rfl ?_
  refine l_goto (tgt := 1341) C dL_law_316 (by decide) ?_
  exact K _ _ _ _ _ _ _ _ e1 V1 ks1 I1 J1 P1
set_option maxRecDepth 100000 in
theorem LL_3 (C : LC X Y cL) (A : LA X i) (V : WS pr n S) (ks : KS n S h) (I : CT z h) (J : IT z hm) (P : LO h hm) (hc : cells + 2 ≤ 601024 ∧ slots + 62 ≤ 7293034) (K : LK X Y cL ad adm o i (cells + 2) (slots + 62)) : LJ X Y cL ((n, ad, S, h), (adm, hm), (o, f)) cells slots 319 (lvL X (ad 0) (adm 0) o i) [] := by
  have V6 : WS pr 60 S := ⟨Nat.le_refl _, V.2⟩
  refine l_aload_n C dL_law_319 rfl rfl ?_
  refine l_arg (v := 1) C A dL_law_320 dL_law_321 dL_law_323 dL_law_324 dL_law_325 rfl rfl (by decide) rfl ?_
  have sc := SX11_input (z := z) (la X i 1) h I
  refine l_C C (R := fun r h' => (r = ziR z ∧ CT (ziZ z) h') ∧ h' = (FX11_input (la X i 1) h).2 ∧ r = (FX11_input (la X i 1) h).1) (MX11_input V6 (la X i 1) h sc.1) (fun r S' h' q => ⟨Or.inl q.1, ⟨by rw [q.2.2]; exact sc.2.1, by rw [q.2.1]; exact sc.2.2⟩, q.2.1, q.2.2⟩) V ks dL_law_326 (CKX11_input (by decide)) ⟨rfl, rfl⟩ lk_RL_42 in_X11_input se_X11_input rfl rfl (Nat.le_of_ble_eq_true rfl) hc (fun r1 pr1 n1 ad1 S1 h1 h2 q1 lo1 e1 V1 ks1 => ?_)
  have I1 := CT_low q1.1.2 lo1
  refine l_pop C dL_law_329 rfl ?_
  refine l_aload_n C dL_law_330 rfl rfl ?_
  refine l_arg (v := 1) C A dL_law_331 dL_law_332 dL_law_334 dL_law_335 dL_law_336 rfl rfl (by decide) rfl ?_
  have sr := SX12_input (z := z) (la X i 1) hm J
  refine l_M (w := ((n1, ad1, S1, h2), (adm, hm), (o, f))) C (R := fun r h' => (r = ziR z ∧ IT (ziZ z) h') ∧ h' = (FX12_input (la X i 1) hm).2 ∧ r = (FX12_input (la X i 1) hm).1) (MX12_input (la X i 1) hm sr.1) (fun r S' h' q => ⟨q.1, ⟨by rw [q.2.2]; exact sr.2.1, by rw [q.2.1]; exact sr.2.2⟩, q.2.1, q.2.2⟩) dL_law_337 (CKX12_input (by decide)) ⟨rfl, rfl⟩ lk_RL_45 in_X12_input se_X12_input rfl rfl (Nat.le_of_ble_eq_true rfl) hc (fun r2 hm2 q2 => ?_)
  have J1 := q2.1.2
  have P1 : LO h2 hm2 := ⟨LR_low (by rw [q1.2.1, q2.2.1]; exact LR_input P.1 J (la X i 1)) lo1, OR_low (by rw [q1.2.1, q2.2.1]; exact OR_fr P.2 (frE_FX11_input _ h (EQ_r h)) (frVE_FX12_input _ hm (EQ_r hm))) lo1⟩
  refine l_pop C dL_law_340 rfl ?_
  refine l_goto (tgt := 1341) C dL_law_341 (by decide) ?_
  exact K _ _ _ _ _ _ _ _ e1 V1 ks1 I1 J1 P1
set_option maxRecDepth 100000 in
theorem LL_4 (C : LC X Y cL) (A : LA X i) (V : WS pr n S) (ks : KS n S h) (I : CT z h) (J : IT z hm) (P : LO h hm) (hc : cells + 2 ≤ 601024 ∧ slots + 62 ≤ 7293034) (K : LK X Y cL ad adm o i (cells + 2) (slots + 62)) : LJ X Y cL ((n, ad, S, h), (adm, hm), (o, f)) cells slots 344 (lvL X (ad 0) (adm 0) o i) [] := by
  have V6 : WS pr 60 S := ⟨Nat.le_refl _, V.2⟩
  refine l_aload_n C dL_law_344 rfl rfl ?_
  refine l_arg (v := 1) C A dL_law_345 dL_law_346 dL_law_348 dL_law_349 dL_law_350 rfl rfl (by decide) rfl ?_
  refine l_arg (v := 2) C A dL_law_351 dL_law_352 dL_law_354 dL_law_355 dL_law_356 rfl rfl (by decide) rfl ?_
  have sc := SX11_turn (z := z) (la X i 1) (la X i 2) h I
  refine l_C C (R := fun r h' => (r = ztR z (la X i 1) (la X i 2) ∧ CT (ztZ z (la X i 1) (la X i 2)) h') ∧ h' = (FX11_turn (la X i 1) (la X i 2) h).2 ∧ r = (FX11_turn (la X i 1) (la X i 2) h).1) (MX11_turn V6 (la X i 1) (la X i 2) h sc.1) (fun r S' h' q => ⟨Or.inl q.1, ⟨by rw [q.2.2]; exact sc.2.1, by rw [q.2.1]; exact sc.2.2⟩, q.2.1, q.2.2⟩) V ks dL_law_357 (CKX11_turn (by decide)) ⟨rfl, rfl⟩ lk_RL_46 in_X11_turn se_X11_turn rfl rfl (Nat.le_of_ble_eq_true rfl) hc (fun r1 pr1 n1 ad1 S1 h1 h2 q1 lo1 e1 V1 ks1 => ?_)
  have I1 := CT_low q1.1.2 lo1
  refine l_pop C dL_law_360 rfl ?_
  refine l_aload_n C dL_law_361 rfl rfl ?_
  refine l_arg (v := 1) C A dL_law_362 dL_law_363 dL_law_365 dL_law_366 dL_law_367 rfl rfl (by decide) rfl ?_
  refine l_arg (v := 2) C A dL_law_368 dL_law_369 dL_law_371 dL_law_372 dL_law_373 rfl rfl (by decide) rfl ?_
  have sr := SX12_turn (z := z) (la X i 1) (la X i 2) hm J
  refine l_M (w := ((n1, ad1, S1, h2), (adm, hm), (o, f))) C (R := fun r h' => (r = ztR z (la X i 1) (la X i 2) ∧ IT (ztZ z (la X i 1) (la X i 2)) h') ∧ h' = (FX12_turn (la X i 1) (la X i 2) hm).2 ∧ r = (FX12_turn (la X i 1) (la X i 2) hm).1) (MX12_turn (la X i 1) (la X i 2) hm sr.1) (fun r S' h' q => ⟨q.1, ⟨by rw [q.2.2]; exact sr.2.1, by rw [q.2.1]; exact sr.2.2⟩, q.2.1, q.2.2⟩) dL_law_374 (CKX12_turn (by decide)) ⟨rfl, rfl⟩ lk_RL_49 in_X12_turn se_X12_turn rfl rfl (Nat.le_of_ble_eq_true rfl) hc (fun r2 hm2 q2 => ?_)
  have J1 := q2.1.2
  have P1 : LO h2 hm2 := ⟨LR_low (by rw [q1.2.1, q2.2.1]; exact LR_turn P.1 J (la X i 1) (la X i 2)) lo1, OR_low (by rw [q1.2.1, q2.2.1]; exact OR_fr P.2 (frE_FX11_turn _ _ h (EQ_r h)) (frVE_FX12_turn _ _ hm (EQ_r hm))) lo1⟩
  refine l_pop C dL_law_377 rfl ?_
  refine l_goto (tgt := 1341) C dL_law_378 (by decide) ?_
  exact K _ _ _ _ _ _ _ _ e1 V1 ks1 I1 J1 P1
set_option maxRecDepth 100000 in
theorem LL_5 (C : LC X Y cL) (A : LA X i) (V : WS pr n S) (ks : KS n S h) (I : CT z h) (J : IT z hm) (P : LO h hm) (hc : cells + 2 ≤ 601024 ∧ slots + 62 ≤ 7293034) (K : LK X Y cL ad adm o i (cells + 2) (slots + 62)) : LJ X Y cL ((n, ad, S, h), (adm, hm), (o, f)) cells slots 381 (lvL X (ad 0) (adm 0) o i) [] := by
  have V6 : WS pr 60 S := ⟨Nat.le_refl _, V.2⟩
  refine l_aload_n C dL_law_381 rfl rfl ?_
  have sc := SX11_freely (z := z)  h I
  refine l_C C (R := fun r h' => (r = z 0 9 ∧ CT (zfZ z) h') ∧ h' = (FX11_freely  h).2 ∧ r = (FX11_freely  h).1) (MX11_freely V6  h sc.1) (fun r S' h' q => ⟨Or.inl q.1, ⟨by rw [q.2.2]; exact sc.2.1, by rw [q.2.1]; exact sc.2.2⟩, q.2.1, q.2.2⟩) V ks dL_law_382 (CKX11_freely (by decide)) ⟨rfl, rfl⟩ lk_RL_50 in_X11_freely se_X11_freely rfl rfl (Nat.le_of_ble_eq_true rfl) hc (fun r1 pr1 n1 ad1 S1 h1 h2 q1 lo1 e1 V1 ks1 => ?_)
  have I1 := CT_low q1.1.2 lo1
  refine l_pop C dL_law_385 rfl ?_
  refine l_aload_n C dL_law_386 rfl rfl ?_
  have sr := SX12_freely (z := z)  hm J
  refine l_M (w := ((n1, ad1, S1, h2), (adm, hm), (o, f))) C (R := fun r h' => (r = z 0 9 ∧ IT (zfZ z) h') ∧ h' = (FX12_freely  hm).2 ∧ r = (FX12_freely  hm).1) (MX12_freely  hm sr.1) (fun r S' h' q => ⟨q.1, ⟨by rw [q.2.2]; exact sr.2.1, by rw [q.2.1]; exact sr.2.2⟩, q.2.1, q.2.2⟩) dL_law_387 (CKX12_freely (by decide)) ⟨rfl, rfl⟩ lk_RL_54 in_X12_freely se_X12_freely rfl rfl (Nat.le_of_ble_eq_true rfl) hc (fun r2 hm2 q2 => ?_)
  have J1 := q2.1.2
  have P1 : LO h2 hm2 := ⟨LR_low (by rw [q1.2.1, q2.2.1]; exact LR_freely P.1 J ) lo1, OR_low (by rw [q1.2.1, q2.2.1]; exact OR_fr P.2 (frE_FX11_freely  h (EQ_r h)) (frVE_FX12_freely  hm (EQ_r hm))) lo1⟩
  refine l_pop C dL_law_390 rfl ?_
  refine l_goto (tgt := 1341) C dL_law_391 (by decide) ?_
  exact K _ _ _ _ _ _ _ _ e1 V1 ks1 I1 J1 P1
set_option maxRecDepth 100000 in
theorem LL_6 (C : LC X Y cL) (A : LA X i) (V : WS pr n S) (ks : KS n S h) (I : CT z h) (J : IT z hm) (P : LO h hm) (hc : cells + 2 ≤ 601024 ∧ slots + 62 ≤ 7293034) (K : LK X Y cL ad adm o i (cells + 2) (slots + 62)) : LJ X Y cL ((n, ad, S, h), (adm, hm), (o, f)) cells slots 394 (lvL X (ad 0) (adm 0) o i) [] := by
  have V6 : WS pr 60 S := ⟨Nat.le_refl _, V.2⟩
  refine l_aload_n C dL_law_394 rfl rfl ?_
  have sc := SX11_run (z := z)  h I
  refine l_C C (R := fun r h' => (CT z h') ∧ h' = (FX11_run  h).2 ∧ r = (FX11_run  h).1) (MX11_run V6  h sc.1) (fun r S' h' q => ⟨Or.inl q.1, by rw [q.2.1]; exact sc.2.2, q.2.1, q.2.2⟩) V ks dL_law_395 (CKX11_run (by decide)) ⟨rfl, rfl⟩ lk_RL_55 in_X11_run se_X11_run rfl rfl (Nat.le_of_ble_eq_true rfl) hc (fun r1 pr1 n1 ad1 S1 h1 h2 q1 lo1 e1 V1 ks1 => ?_)
  have I1 := CT_low q1.1 lo1
  refine l_pop C dL_law_398 rfl ?_
  refine l_aload_n C dL_law_399 rfl rfl ?_
  have sr := SX12_run (z := z)  hm J
  refine l_M (w := ((n1, ad1, S1, h2), (adm, hm), (o, f))) C (R := fun r h' => (IT z h') ∧ h' = (FX12_run  hm).2 ∧ r = (FX12_run  hm).1) (MX12_run  hm sr.1) (fun r S' h' q => ⟨q.1, by rw [q.2.1]; exact sr.2.2, q.2.1, q.2.2⟩) dL_law_400 (CKX12_run (by decide)) ⟨rfl, rfl⟩ lk_RL_58 in_X12_run se_X12_run rfl rfl (Nat.le_of_ble_eq_true rfl) hc (fun r2 hm2 q2 => ?_)
  have J1 := q2.1
  have P1 : LO h2 hm2 := ⟨LR_low (by rw [q1.2.1, q2.2.1]; exact LR_run P.1 J) lo1, OR_low (by rw [q1.2.1, q2.2.1]; exact OR_run) lo1⟩
  refine l_pop C dL_law_403 rfl ?_
  refine l_goto (tgt := 1341) C dL_law_404 (by decide) ?_
  exact K _ _ _ _ _ _ _ _ e1 V1 ks1 I1 J1 P1
set_option maxRecDepth 100000 in
theorem LL_7 (C : LC X Y cL) (A : LA X i) (V : WS pr n S) (ks : KS n S h) (I : CT z h) (J : IT z hm) (P : LO h hm) (hc : cells + 2 ≤ 601024 ∧ slots + 62 ≤ 7293034) (K : LK X Y cL ad adm o i (cells + 2) (slots + 62)) : LJ X Y cL ((n, ad, S, h), (adm, hm), (o, f)) cells slots 407 (lvL X (ad 0) (adm 0) o i) [] := by
  have V6 : WS pr 60 S := ⟨Nat.le_refl _, V.2⟩
  refine l_aload_n C dL_law_407 rfl rfl ?_
  refine l_arg (v := 1) C A dL_law_408 dL_law_409 dL_law_411 dL_law_412 dL_law_413 rfl rfl (by decide) rfl ?_
  obtain ⟨z1, m1, z1i⟩ := I
  have sc := SX11_told (z := z1) (la X i 1) h z1i
  refine l_C C (R := fun r h' => (CT z h') ∧ h' = h ∧ r = FX11_told (la X i 1) h) (MX11_told V6 (la X i 1) h sc.1) (fun r S' h' q => ⟨Or.inl q.1, by rw [q.2.1]; exact ⟨z1, m1, z1i⟩, q.2.1, q.2.2⟩) V ks dL_law_414 (CKX11_told (by decide)) ⟨rfl, rfl⟩ lk_RL_59 in_X11_told se_X11_told rfl rfl (Nat.le_of_ble_eq_true rfl) hc (fun r1 pr1 n1 ad1 S1 h1 h2 q1 lo1 e1 V1 ks1 => ?_)
  have I1 := CT_low q1.1 lo1
  refine l_pop C dL_law_417 rfl ?_
  refine l_aload_n C dL_law_418 rfl rfl ?_
  refine l_arg (v := 1) C A dL_law_419 dL_law_420 dL_law_422 dL_law_423 dL_law_424 rfl rfl (by decide) rfl ?_
  have sr := toT J (fun z1 z1i => SX12_told (z := z1) (la X i 1) hm z1i)
  refine l_M (w := ((n1, ad1, S1, h2), (adm, hm), (o, f))) C (R := fun r h' => (IT z h') ∧ h' = (FX12_told (la X i 1) hm).2 ∧ r = (FX12_told (la X i 1) hm).1) (MX12_told (la X i 1) hm sr.1) (fun r S' h' q => ⟨q.1, by rw [q.2.1]; exact sr.2.2, q.2.1, q.2.2⟩) dL_law_425 (CKX12_told (by decide)) ⟨rfl, rfl⟩ lk_RL_62 in_X12_told se_X12_told rfl rfl (Nat.le_of_ble_eq_true rfl) hc (fun r2 hm2 q2 => ?_)
  have J1 := q2.1
  have P1 : LO h2 hm2 := ⟨LR_low (by rw [q1.2.1, q2.2.1]; exact LR_fr P.1 (EQ_r h) (frV_FX12_told _ hm (EQ_r hm))) lo1, OR_low (by rw [q1.2.1, q2.2.1]; exact OR_fr P.2 (EQ_r h) (frVE_FX12_told _ hm (EQ_r hm))) lo1⟩
  refine l_pop C dL_law_428 rfl ?_
  refine l_goto (tgt := 1341) C dL_law_429 (by decide) ?_
  exact K _ _ _ _ _ _ _ _ e1 V1 ks1 I1 J1 P1
set_option maxRecDepth 100000 in
theorem LL_8 (C : LC X Y cL) (A : LA X i) (V : WS pr n S) (ks : KS n S h) (I : CT z h) (J : IT z hm) (P : LO h hm) (hc : cells + 2 ≤ 601024 ∧ slots + 62 ≤ 7293034) (K : LK X Y cL ad adm o i (cells + 2) (slots + 62)) : LJ X Y cL ((n, ad, S, h), (adm, hm), (o, f)) cells slots 432 (lvL X (ad 0) (adm 0) o i) [] := by
  have V6 : WS pr 60 S := ⟨Nat.le_refl _, V.2⟩
  refine l_aload_n C dL_law_432 rfl rfl ?_
  refine l_arg (v := 1) C A dL_law_433 dL_law_434 dL_law_436 dL_law_437 dL_law_438 rfl rfl (by decide) rfl ?_
  refine l_arg (v := 2) C A dL_law_439 dL_law_440 dL_law_442 dL_law_443 dL_law_444 rfl rfl (by decide) rfl ?_
  obtain ⟨z1, m1, z1i⟩ := I
  have sc := SX11_change (z := z1) (la X i 1) (la X i 2) h z1i
  refine l_C C (R := fun r h' => (CT z h') ∧ h' = h ∧ r = FX11_change (la X i 1) (la X i 2) h) (MX11_change V6 (la X i 1) (la X i 2) h sc.1) (fun r S' h' q => ⟨Or.inl q.1, by rw [q.2.1]; exact ⟨z1, m1, z1i⟩, q.2.1, q.2.2⟩) V ks dL_law_445 (CKX11_change (by decide)) ⟨rfl, rfl⟩ lk_RL_63 in_X11_change se_X11_change rfl rfl (Nat.le_of_ble_eq_true rfl) hc (fun r1 pr1 n1 ad1 S1 h1 h2 q1 lo1 e1 V1 ks1 => ?_)
  have I1 := CT_low q1.1 lo1
  refine l_pop C dL_law_448 rfl ?_
  refine l_aload_n C dL_law_449 rfl rfl ?_
  refine l_arg (v := 1) C A dL_law_450 dL_law_451 dL_law_453 dL_law_454 dL_law_455 rfl rfl (by decide) rfl ?_
  refine l_arg (v := 2) C A dL_law_456 dL_law_457 dL_law_459 dL_law_460 dL_law_461 rfl rfl (by decide) rfl ?_
  have sr := toT J (fun z1 z1i => SX12_change (z := z1) (la X i 1) (la X i 2) hm z1i)
  refine l_M (w := ((n1, ad1, S1, h2), (adm, hm), (o, f))) C (R := fun r h' => (IT z h') ∧ h' = (FX12_change (la X i 1) (la X i 2) hm).2 ∧ r = (FX12_change (la X i 1) (la X i 2) hm).1) (MX12_change (la X i 1) (la X i 2) hm sr.1) (fun r S' h' q => ⟨q.1, by rw [q.2.1]; exact sr.2.2, q.2.1, q.2.2⟩) dL_law_462 (CKX12_change (by decide)) ⟨rfl, rfl⟩ lk_RL_66 in_X12_change se_X12_change rfl rfl (Nat.le_of_ble_eq_true rfl) hc (fun r2 hm2 q2 => ?_)
  have J1 := q2.1
  have P1 : LO h2 hm2 := ⟨LR_low (by rw [q1.2.1, q2.2.1]; exact LR_fr P.1 (EQ_r h) (frV_FX12_change _ _ hm (EQ_r hm))) lo1, OR_low (by rw [q1.2.1, q2.2.1]; exact OR_fr P.2 (EQ_r h) (frVE_FX12_change _ _ hm (EQ_r hm))) lo1⟩
  refine l_pop C dL_law_465 rfl ?_
  refine l_goto (tgt := 1341) C dL_law_466 (by decide) ?_
  exact K _ _ _ _ _ _ _ _ e1 V1 ks1 I1 J1 P1
set_option maxRecDepth 100000 in
theorem LL_9 (C : LC X Y cL) (A : LA X i) (V : WS pr n S) (ks : KS n S h) (I : CT z h) (J : IT z hm) (P : LO h hm) (hc : cells + 2 ≤ 601024 ∧ slots + 62 ≤ 7293034) (K : LK X Y cL ad adm o i (cells + 2) (slots + 62)) : LJ X Y cL ((n, ad, S, h), (adm, hm), (o, f)) cells slots 469 (lvL X (ad 0) (adm 0) o i) [] := by
  have V6 : WS pr 60 S := ⟨Nat.le_refl _, V.2⟩
  refine l_aload_n C dL_law_469 rfl rfl ?_
  refine l_arg (v := 1) C A dL_law_470 dL_law_471 dL_law_473 dL_law_474 dL_law_475 rfl rfl (by decide) rfl ?_
  refine l_arg (v := 2) C A dL_law_476 dL_law_477 dL_law_479 dL_law_480 dL_law_481 rfl rfl (by decide) rfl ?_
  obtain ⟨z1, m1, z1i⟩ := I
  have sc := SX11_step (z := z1) (la X i 1) (la X i 2) h z1i
  refine l_C C (R := fun r h' => (CT z h') ∧ h' = h ∧ r = FX11_step (la X i 1) (la X i 2) h) (MX11_step V6 (la X i 1) (la X i 2) h sc.1) (fun r S' h' q => ⟨Or.inl q.1, by rw [q.2.1]; exact ⟨z1, m1, z1i⟩, q.2.1, q.2.2⟩) V ks dL_law_482 (CKX11_step (by decide)) ⟨rfl, rfl⟩ lk_RL_67 in_X11_step se_X11_step rfl rfl (Nat.le_of_ble_eq_true rfl) hc (fun r1 pr1 n1 ad1 S1 h1 h2 q1 lo1 e1 V1 ks1 => ?_)
  have I1 := CT_low q1.1 lo1
  refine l_pop C dL_law_485 rfl ?_
  refine l_aload_n C dL_law_486 rfl rfl ?_
  refine l_arg (v := 1) C A dL_law_487 dL_law_488 dL_law_490 dL_law_491 dL_law_492 rfl rfl (by decide) rfl ?_
  refine l_arg (v := 2) C A dL_law_493 dL_law_494 dL_law_496 dL_law_497 dL_law_498 rfl rfl (by decide) rfl ?_
  have sr := toT J (fun z1 z1i => SX12_step_ (z := z1) (la X i 1) (la X i 2) hm z1i)
  refine l_M (w := ((n1, ad1, S1, h2), (adm, hm), (o, f))) C (R := fun r h' => (IT z h') ∧ h' = (FX12_step_ (la X i 1) (la X i 2) hm).2 ∧ r = (FX12_step_ (la X i 1) (la X i 2) hm).1) (MX12_step_ (la X i 1) (la X i 2) hm sr.1) (fun r S' h' q => ⟨q.1, by rw [q.2.1]; exact sr.2.2, q.2.1, q.2.2⟩) dL_law_499 (CKX12_step_ (by decide)) ⟨rfl, rfl⟩ lk_RL_70 in_X12_step_ se_X12_step_ rfl rfl (Nat.le_of_ble_eq_true rfl) hc (fun r2 hm2 q2 => ?_)
  have J1 := q2.1
  have P1 : LO h2 hm2 := ⟨LR_low (by rw [q1.2.1, q2.2.1]; exact LR_fr P.1 (EQ_r h) (frV_FX12_step_ _ _ hm (EQ_r hm))) lo1, OR_low (by rw [q1.2.1, q2.2.1]; exact OR_fr P.2 (EQ_r h) (frVE_FX12_step_ _ _ hm (EQ_r hm))) lo1⟩
  refine l_pop C dL_law_502 rfl ?_
  refine l_goto (tgt := 1341) C dL_law_503 (by decide) ?_
  exact K _ _ _ _ _ _ _ _ e1 V1 ks1 I1 J1 P1
set_option maxRecDepth 100000 in
theorem LL_10 (C : LC X Y cL) (A : LA X i) (V : WS pr n S) (ks : KS n S h) (I : CT z h) (J : IT z hm) (P : LO h hm) (hc : cells + 2 ≤ 601024 ∧ slots + 62 ≤ 7293034) (K : LK X Y cL ad adm o i (cells + 2) (slots + 62)) : LJ X Y cL ((n, ad, S, h), (adm, hm), (o, f)) cells slots 506 (lvL X (ad 0) (adm 0) o i) [] := by
  have V6 : WS pr 60 S := ⟨Nat.le_refl _, V.2⟩
  refine l_aload_n C dL_law_506 rfl rfl ?_
  refine l_arg (v := 1) C A dL_law_507 dL_law_508 dL_law_510 dL_law_511 dL_law_512 rfl rfl (by decide) rfl ?_
  refine l_arg (v := 2) C A dL_law_513 dL_law_514 dL_law_516 dL_law_517 dL_law_518 rfl rfl (by decide) rfl ?_
  have sc := SX11_play_T (z := z) (la X i 1) (la X i 2) h I
  refine l_C C (R := fun r h' => (CT z h') ∧ h' = (FX11_play (la X i 1) (la X i 2) h).2 ∧ r = (FX11_play (la X i 1) (la X i 2) h).1) (MX11_play V6 (la X i 1) (la X i 2) h sc.1) (fun r S' h' q => ⟨q.1, by rw [q.2.1]; exact sc.2.2, q.2.1, q.2.2⟩) V ks dL_law_519 (CKX11_play (by decide)) ⟨rfl, rfl⟩ lk_RL_71 in_X11_play se_X11_play rfl rfl (Nat.le_of_ble_eq_true rfl) hc (fun r1 pr1 n1 ad1 S1 h1 h2 q1 lo1 e1 V1 ks1 => ?_)
  have I1 := CT_low q1.1 lo1
  refine l_pop C dL_law_522 rfl ?_
  refine l_aload_n C dL_law_523 rfl rfl ?_
  refine l_arg (v := 1) C A dL_law_524 dL_law_525 dL_law_527 dL_law_528 dL_law_529 rfl rfl (by decide) rfl ?_
  refine l_arg (v := 2) C A dL_law_530 dL_law_531 dL_law_533 dL_law_534 dL_law_535 rfl rfl (by decide) rfl ?_
  have sr := SX12_play (z := z) (la X i 1) (la X i 2) hm J
  refine l_M (w := ((n1, ad1, S1, h2), (adm, hm), (o, f))) C (R := fun r h' => (IT z h') ∧ h' = (FX12_play (la X i 1) (la X i 2) hm).2 ∧ r = (FX12_play (la X i 1) (la X i 2) hm).1) (MX12_play (la X i 1) (la X i 2) hm sr.1) (fun r S' h' q => ⟨q.1, by rw [q.2.1]; exact sr.2.2, q.2.1, q.2.2⟩) dL_law_536 (CKX12_play (by decide)) ⟨rfl, rfl⟩ lk_RL_74 in_X12_play se_X12_play rfl rfl (Nat.le_of_ble_eq_true rfl) hc (fun r2 hm2 q2 => ?_)
  have J1 := q2.1
  have P1 : LO h2 hm2 := ⟨LR_low (by rw [q1.2.1, q2.2.1]; exact (play_both P.1 J (la X i 1) (la X i 2)).2) lo1, OR_low (by rw [q1.2.1, q2.2.1]; exact OR_fr P.2 (frE_FX11_play _ _ h (EQ_r h)) (frVE_FX12_play _ _ hm (EQ_r hm))) lo1⟩
  refine l_pop C dL_law_539 rfl ?_
  refine l_goto (tgt := 1341) C dL_law_540 (by decide) ?_
  exact K _ _ _ _ _ _ _ _ e1 V1 ks1 I1 J1 P1
set_option maxRecDepth 100000 in
theorem LL_11 (C : LC X Y cL) (A : LA X i) (V : WS pr n S) (ks : KS n S h) (I : CT z h) (J : IT z hm) (P : LO h hm) (hc : cells + 2 ≤ 601024 ∧ slots + 62 ≤ 7293034) (K : LK X Y cL ad adm o i (cells + 2) (slots + 62)) : LJ X Y cL ((n, ad, S, h), (adm, hm), (o, f)) cells slots 543 (lvL X (ad 0) (adm 0) o i) [] := by
  have V6 : WS pr 60 S := ⟨Nat.le_refl _, V.2⟩
  refine l_aload_n C dL_law_543 rfl rfl ?_
  obtain ⟨z1, m1, z1i⟩ := I
  have sc := SX11_ended (z := z1)  h z1i
  refine l_C C (R := fun r h' => (CT z h') ∧ h' = h ∧ r = FX11_ended  h) (MX11_ended V6  h sc.1) (fun r S' h' q => ⟨Or.inl q.1, by rw [q.2.1]; exact ⟨z1, m1, z1i⟩, q.2.1, q.2.2⟩) V ks dL_law_544 (CKX11_ended (by decide)) ⟨rfl, rfl⟩ lk_RL_75 in_X11_ended se_X11_ended rfl rfl (Nat.le_of_ble_eq_true rfl) hc (fun r1 pr1 n1 ad1 S1 h1 h2 q1 lo1 e1 V1 ks1 => ?_)
  have I1 := CT_low q1.1 lo1
  refine l_pop C dL_law_547 rfl ?_
  refine l_aload_n C dL_law_548 rfl rfl ?_
  have sr := toT J (fun z1 z1i => SX12_ended (z := z1)  hm z1i)
  refine l_M (w := ((n1, ad1, S1, h2), (adm, hm), (o, f))) C (R := fun r h' => (IT z h') ∧ h' = (FX12_ended  hm).2 ∧ r = (FX12_ended  hm).1) (MX12_ended  hm sr.1) (fun r S' h' q => ⟨q.1, by rw [q.2.1]; exact sr.2.2, q.2.1, q.2.2⟩) dL_law_549 (CKX12_ended (by decide)) ⟨rfl, rfl⟩ lk_RL_78 in_X12_ended se_X12_ended rfl rfl (Nat.le_of_ble_eq_true rfl) hc (fun r2 hm2 q2 => ?_)
  have J1 := q2.1
  have P1 : LO h2 hm2 := ⟨LR_low (by rw [q1.2.1, q2.2.1]; exact LR_fr P.1 (EQ_r h) (frV_FX12_ended  hm (EQ_r hm))) lo1, OR_low (by rw [q1.2.1, q2.2.1]; exact OR_fr P.2 (EQ_r h) (frVE_FX12_ended  hm (EQ_r hm))) lo1⟩
  refine l_pop C dL_law_552 rfl ?_
  refine l_goto (tgt := 1341) C dL_law_553 (by decide) ?_
  exact K _ _ _ _ _ _ _ _ e1 V1 ks1 I1 J1 P1
set_option maxRecDepth 100000 in
theorem LL_12 (C : LC X Y cL) (A : LA X i) (V : WS pr n S) (ks : KS n S h) (I : CT z h) (J : IT z hm) (P : LO h hm) (hc : cells + 2 ≤ 601024 ∧ slots + 62 ≤ 7293034) (K : LK X Y cL ad adm o i (cells + 2) (slots + 62)) : LJ X Y cL ((n, ad, S, h), (adm, hm), (o, f)) cells slots 556 (lvL X (ad 0) (adm 0) o i) [] := by
  have V6 : WS pr 60 S := ⟨Nat.le_refl _, V.2⟩
  refine l_aload_n C dL_law_556 rfl rfl ?_
  refine l_arg (v := 1) C A dL_law_557 dL_law_558 dL_law_560 dL_law_561 dL_law_562 rfl rfl (by decide) rfl ?_
  have sc := toC I (fun z1 z1i => SX11_to (z := z1) (la X i 1) h z1i)
  refine l_C C (R := fun r h' => (CT z h') ∧ h' = (FX11_to (la X i 1) h).2 ∧ r = (FX11_to (la X i 1) h).1) (MX11_to V6 (la X i 1) h sc.1) (fun r S' h' q => ⟨Or.inl q.1, by rw [q.2.1]; exact sc.2.2, q.2.1, q.2.2⟩) V ks dL_law_563 (CKX11_to (by decide)) ⟨rfl, rfl⟩ lk_RL_79 in_X11_to se_X11_to rfl rfl (Nat.le_of_ble_eq_true rfl) hc (fun r1 pr1 n1 ad1 S1 h1 h2 q1 lo1 e1 V1 ks1 => ?_)
  have I1 := CT_low q1.1 lo1
  refine l_pop C dL_law_566 rfl ?_
  refine l_aload_n C dL_law_567 rfl rfl ?_
  refine l_arg (v := 1) C A dL_law_568 dL_law_569 dL_law_571 dL_law_572 dL_law_573 rfl rfl (by decide) rfl ?_
  have sr := toT J (fun z1 z1i => SX12_to (z := z1) (la X i 1) hm z1i)
  refine l_M (w := ((n1, ad1, S1, h2), (adm, hm), (o, f))) C (R := fun r h' => (IT z h') ∧ h' = (FX12_to (la X i 1) hm).2 ∧ r = (FX12_to (la X i 1) hm).1) (MX12_to (la X i 1) hm sr.1) (fun r S' h' q => ⟨q.1, by rw [q.2.1]; exact sr.2.2, q.2.1, q.2.2⟩) dL_law_574 (CKX12_to (by decide)) ⟨rfl, rfl⟩ lk_RL_82 in_X12_to se_X12_to rfl rfl (Nat.le_of_ble_eq_true rfl) hc (fun r2 hm2 q2 => ?_)
  have J1 := q2.1
  have P1 : LO h2 hm2 := ⟨LR_low (by rw [q1.2.1, q2.2.1]; exact (to_both P.1 (la X i 1)).2) lo1, OR_low (by rw [q1.2.1, q2.2.1]; exact OR_fr P.2 (frE_FX11_to _ h (EQ_r h)) (frVE_FX12_to _ hm (EQ_r hm))) lo1⟩
  refine l_pop C dL_law_577 rfl ?_
  refine l_goto (tgt := 1341) C dL_law_578 (by decide) ?_
  exact K _ _ _ _ _ _ _ _ e1 V1 ks1 I1 J1 P1
set_option maxRecDepth 100000 in
theorem LL_13 (C : LC X Y cL) (A : LA X i) (V : WS pr n S) (ks : KS n S h) (I : CT z h) (J : IT z hm) (P : LO h hm) (hc : cells + 2 ≤ 601024 ∧ slots + 62 ≤ 7293034) (K : LK X Y cL ad adm o i (cells + 2) (slots + 62)) : LJ X Y cL ((n, ad, S, h), (adm, hm), (o, f)) cells slots 581 (lvL X (ad 0) (adm 0) o i) [] := by
  have V6 : WS pr 60 S := ⟨Nat.le_refl _, V.2⟩
  refine l_aload_n C dL_law_581 rfl rfl ?_
  refine l_arg (v := 1) C A dL_law_582 dL_law_583 dL_law_585 dL_law_586 dL_law_587 rfl rfl (by decide) rfl ?_
  have sc := toC I (fun z1 z1i => SX11_back (z := z1) (la X i 1) h z1i)
  refine l_C C (R := fun r h' => (CT z h') ∧ h' = (FX11_back (la X i 1) h).2 ∧ r = (FX11_back (la X i 1) h).1) (MX11_back V6 (la X i 1) h sc.1) (fun r S' h' q => ⟨Or.inl q.1, by rw [q.2.1]; exact sc.2.2, q.2.1, q.2.2⟩) V ks dL_law_588 (CKX11_back (by decide)) ⟨rfl, rfl⟩ lk_RL_83 in_X11_back se_X11_back rfl rfl (Nat.le_of_ble_eq_true rfl) hc (fun r1 pr1 n1 ad1 S1 h1 h2 q1 lo1 e1 V1 ks1 => ?_)
  have I1 := CT_low q1.1 lo1
  refine l_pop C dL_law_591 rfl ?_
  refine l_aload_n C dL_law_592 rfl rfl ?_
  refine l_arg (v := 1) C A dL_law_593 dL_law_594 dL_law_596 dL_law_597 dL_law_598 rfl rfl (by decide) rfl ?_
  have sr := toT J (fun z1 z1i => SX12_back (z := z1) (la X i 1) hm z1i)
  refine l_M (w := ((n1, ad1, S1, h2), (adm, hm), (o, f))) C (R := fun r h' => (IT z h') ∧ h' = (FX12_back (la X i 1) hm).2 ∧ r = (FX12_back (la X i 1) hm).1) (MX12_back (la X i 1) hm sr.1) (fun r S' h' q => ⟨q.1, by rw [q.2.1]; exact sr.2.2, q.2.1, q.2.2⟩) dL_law_599 (CKX12_back (by decide)) ⟨rfl, rfl⟩ lk_RL_86 in_X12_back se_X12_back rfl rfl (Nat.le_of_ble_eq_true rfl) hc (fun r2 hm2 q2 => ?_)
  have J1 := q2.1
  have P1 : LO h2 hm2 := ⟨LR_low (by rw [q1.2.1, q2.2.1]; exact (back_both P.1 (la X i 1)).2) lo1, OR_low (by rw [q1.2.1, q2.2.1]; exact OR_fr P.2 (frE_FX11_back _ h (EQ_r h)) (frVE_FX12_back _ hm (EQ_r hm))) lo1⟩
  refine l_pop C dL_law_602 rfl ?_
  refine l_goto (tgt := 1341) C dL_law_603 (by decide) ?_
  exact K _ _ _ _ _ _ _ _ e1 V1 ks1 I1 J1 P1
set_option maxRecDepth 100000 in
theorem LL_14 (C : LC X Y cL) (A : LA X i) (V : WS pr n S) (ks : KS n S h) (I : CT z h) (J : IT z hm) (P : LO h hm) (hc : cells + 2 ≤ 601024 ∧ slots + 62 ≤ 7293034) (K : LK X Y cL ad adm o i (cells + 2) (slots + 62)) : LJ X Y cL ((n, ad, S, h), (adm, hm), (o, f)) cells slots 606 (lvL X (ad 0) (adm 0) o i) [] := by
  have V6 : WS pr 60 S := ⟨Nat.le_refl _, V.2⟩
  refine l_aload_n C dL_law_606 rfl rfl ?_
  refine l_arg (v := 1) C A dL_law_607 dL_law_608 dL_law_610 dL_law_611 dL_law_612 rfl rfl (by decide) rfl ?_
  refine l_arg (v := 2) C A dL_law_613 dL_law_614 dL_law_616 dL_law_617 dL_law_618 rfl rfl (by decide) rfl ?_
  refine l_arg (v := 3) C A dL_law_619 dL_law_620 dL_law_622 dL_law_623 dL_law_624 rfl rfl (by decide) rfl ?_
  refine l_aload_n C dL_law_625 rfl rfl ?_
  obtain ⟨z1, m1, z1i⟩ := I
  refine l_HC C (R := fun r h' f' => CT z h' ∧ vH h h') (HL_value (GX11_value C.tr V6 z1i (la X i 1) (la X i 2) (la X i 3)) (fun E u q => xC_or q.1) (by decide) (sh_0 V6)) (fun r u q => hv_post m1 z1i q) V ks dL_law_626 cw_L_value iz_L ⟨by decide, by decide⟩ pd_L_value ⟨by decide, by decide⟩ ⟨by decide, by decide⟩ lk_RL_87 st_L_value rfl (Nat.le_of_ble_eq_true rfl) hc (fun r1 pr1 n1 ad1 S1 h1 h2 f1 q1 lo1 e1 V1 ks1 => ?_)
  have I1 := CT_low q1.1 lo1
  refine l_istore C dL_law_629 (by decide) rfl ?_
  refine l_aload_n C dL_law_631 rfl rfl ?_
  refine l_arg (v := 1) C A dL_law_632 dL_law_633 dL_law_635 dL_law_636 dL_law_637 rfl rfl (by decide) rfl ?_
  refine l_arg (v := 2) C A dL_law_638 dL_law_639 dL_law_641 dL_law_642 dL_law_643 rfl rfl (by decide) rfl ?_
  refine l_arg (v := 3) C A dL_law_644 dL_law_645 dL_law_647 dL_law_648 dL_law_649 rfl rfl (by decide) rfl ?_
  have sr := toT J (fun z1 z1i => SX12_value (z := z1) (la X i 1) (la X i 2) (la X i 3) hm z1i)
  refine l_M (w := ((n1, ad1, S1, h2), (adm, hm), (o, f1))) C (R := fun r h' => (IT z h') ∧ h' = (FX12_value (la X i 1) (la X i 2) (la X i 3) hm).2 ∧ r = (FX12_value (la X i 1) (la X i 2) (la X i 3) hm).1) (MX12_value (la X i 1) (la X i 2) (la X i 3) hm sr.1) (fun r S' h' q => ⟨q.1, by rw [q.2.1]; exact sr.2.2, q.2.1, q.2.2⟩) dL_law_650 (CKX12_value (by decide)) ⟨rfl, rfl⟩ lk_RL_92 in_X12_value se_X12_value rfl rfl (Nat.le_of_ble_eq_true rfl) hc (fun r2 hm2 q2 => ?_)
  have J1 := q2.1
  have P1 : LO h2 hm2 := ⟨LR_low (by rw [q2.2.1]; exact LR_fr (LR_vH P.1 J q1.2) (EQ_r _) (frV_FX12_value _ _ _ hm (EQ_r hm))) lo1, OR_low (by rw [q2.2.1]; exact OR_fr (OR_vH P.2 q1.2) (EQ_r _) (frVE_FX12_value _ _ _ hm (EQ_r hm))) lo1⟩
  refine l_istore C dL_law_653 (by decide) rfl ?_
  refine l_goto (tgt := 1341) C dL_law_655 (by decide) ?_
  refine l_vl (lv' := lvL X (ad 0) (adm 0) o i) ?_ ⟨rfl, rfl, rfl, rfl, rfl, trivial⟩
  exact K _ _ _ _ _ _ _ _ e1 V1 ks1 I1 J1 P1
set_option maxRecDepth 100000 in
theorem LL_15 (C : LC X Y cL) (A : LA X i) (V : WS pr n S) (ks : KS n S h) (I : CT z h) (J : IT z hm) (P : LO h hm) (hc : cells + 2 ≤ 601024 ∧ slots + 62 ≤ 7293034) (K : LK X Y cL ad adm o i (cells + 2) (slots + 62)) : LJ X Y cL ((n, ad, S, h), (adm, hm), (o, f)) cells slots 658 (lvL X (ad 0) (adm 0) o i) [] := by
  have V6 : WS pr 60 S := ⟨Nat.le_refl _, V.2⟩
  refine l_aload_n C dL_law_658 rfl rfl ?_
  refine l_arg (v := 1) C A dL_law_659 dL_law_660 dL_law_662 dL_law_663 dL_law_664 rfl rfl (by decide) rfl ?_
  refine l_arg (v := 2) C A dL_law_665 dL_law_666 dL_law_668 dL_law_669 dL_law_670 rfl rfl (by decide) rfl ?_
  have sc := toC I (fun z1 z1i => SX11_thing (z := z1) (la X i 1) (la X i 2) h z1i)
  refine l_C C (R := fun r h' => (CT z h') ∧ h' = (FX11_thing (la X i 1) (la X i 2) h).2 ∧ r = (FX11_thing (la X i 1) (la X i 2) h).1) (MX11_thing V6 (la X i 1) (la X i 2) h sc.1) (fun r S' h' q => ⟨Or.inl q.1, by rw [q.2.1]; exact sc.2.2, q.2.1, q.2.2⟩) V ks dL_law_671 (CKX11_thing (by decide)) ⟨rfl, rfl⟩ lk_RL_93 in_X11_thing se_X11_thing rfl rfl (Nat.le_of_ble_eq_true rfl) hc (fun r1 pr1 n1 ad1 S1 h1 h2 q1 lo1 e1 V1 ks1 => ?_)
  have I1 := CT_low q1.1 lo1
  refine l_pop C dL_law_674 rfl ?_
  refine l_aload_n C dL_law_675 rfl rfl ?_
  refine l_arg (v := 1) C A dL_law_676 dL_law_677 dL_law_679 dL_law_680 dL_law_681 rfl rfl (by decide) rfl ?_
  refine l_arg (v := 2) C A dL_law_682 dL_law_683 dL_law_685 dL_law_686 dL_law_687 rfl rfl (by decide) rfl ?_
  have sr := toT J (fun z1 z1i => SX12_thing (z := z1) (la X i 1) (la X i 2) hm z1i)
  refine l_M (w := ((n1, ad1, S1, h2), (adm, hm), (o, f))) C (R := fun r h' => (IT z h') ∧ h' = (FX12_thing (la X i 1) (la X i 2) hm).2 ∧ r = (FX12_thing (la X i 1) (la X i 2) hm).1) (MX12_thing (la X i 1) (la X i 2) hm sr.1) (fun r S' h' q => ⟨q.1, by rw [q.2.1]; exact sr.2.2, q.2.1, q.2.2⟩) dL_law_688 (CKX12_thing (by decide)) ⟨rfl, rfl⟩ lk_RL_96 in_X12_thing se_X12_thing rfl rfl (Nat.le_of_ble_eq_true rfl) hc (fun r2 hm2 q2 => ?_)
  have J1 := q2.1
  have P1 : LO h2 hm2 := ⟨LR_low (by rw [q1.2.1, q2.2.1]; exact LR_thing P.1 J (la X i 1) (la X i 2)) lo1, OR_low (by rw [q1.2.1, q2.2.1]; exact OR_fr P.2 (frE_FX11_thing _ _ h (EQ_r h)) (frVE_FX12_thing _ _ hm (EQ_r hm))) lo1⟩
  refine l_pop C dL_law_691 rfl ?_
  refine l_goto (tgt := 1341) C dL_law_692 (by decide) ?_
  exact K _ _ _ _ _ _ _ _ e1 V1 ks1 I1 J1 P1
set_option maxRecDepth 100000 in
theorem LL_16 (C : LC X Y cL) (A : LA X i) (V : WS pr n S) (ks : KS n S h) (I : CT z h) (J : IT z hm) (P : LO h hm) (hc : cells + 2 ≤ 601024 ∧ slots + 62 ≤ 7293034) (K : LK X Y cL ad adm o i (cells + 2) (slots + 62)) : LJ X Y cL ((n, ad, S, h), (adm, hm), (o, f)) cells slots 695 (lvL X (ad 0) (adm 0) o i) [] := by
  have V6 : WS pr 60 S := ⟨Nat.le_refl _, V.2⟩
  refine l_aload_n C dL_law_695 rfl rfl ?_
  refine l_arg (v := 1) C A dL_law_696 dL_law_697 dL_law_699 dL_law_700 dL_law_701 rfl rfl (by decide) rfl ?_
  refine l_arg (v := 2) C A dL_law_702 dL_law_703 dL_law_705 dL_law_706 dL_law_707 rfl rfl (by decide) rfl ?_
  refine l_aload_n C dL_law_708 rfl rfl ?_
  obtain ⟨z1, m1, z1i⟩ := I
  refine l_HC C (R := fun r h' f' => CT z h' ∧ vH h h') (HL_place (GX11_place C.tr V6 z1i (la X i 1) (la X i 2)) (fun E u q => xC_or q.1) (by decide) (sh_0 V6)) (fun r u q => hp_post m1 z1i q) V ks dL_law_709 cw_L_place iz_L ⟨by decide, by decide⟩ pd_L_place ⟨by decide, by decide⟩ ⟨by decide, by decide⟩ lk_RL_97 st_L_place rfl (Nat.le_of_ble_eq_true rfl) hc (fun r1 pr1 n1 ad1 S1 h1 h2 f1 q1 lo1 e1 V1 ks1 => ?_)
  have I1 := CT_low q1.1 lo1
  refine l_istore C dL_law_712 (by decide) rfl ?_
  refine l_aload_n C dL_law_714 rfl rfl ?_
  refine l_arg (v := 1) C A dL_law_715 dL_law_716 dL_law_718 dL_law_719 dL_law_720 rfl rfl (by decide) rfl ?_
  refine l_arg (v := 2) C A dL_law_721 dL_law_722 dL_law_724 dL_law_725 dL_law_726 rfl rfl (by decide) rfl ?_
  have sr := toT J (fun z1 z1i => SX12_place (z := z1) (la X i 1) (la X i 2) hm z1i)
  refine l_M (w := ((n1, ad1, S1, h2), (adm, hm), (o, f1))) C (R := fun r h' => (IT z h') ∧ h' = (FX12_place (la X i 1) (la X i 2) hm).2 ∧ r = (FX12_place (la X i 1) (la X i 2) hm).1) (MX12_place (la X i 1) (la X i 2) hm sr.1) (fun r S' h' q => ⟨q.1, by rw [q.2.1]; exact sr.2.2, q.2.1, q.2.2⟩) dL_law_727 (CKX12_place (by decide)) ⟨rfl, rfl⟩ lk_RL_100 in_X12_place se_X12_place rfl rfl (Nat.le_of_ble_eq_true rfl) hc (fun r2 hm2 q2 => ?_)
  have J1 := q2.1
  have P1 : LO h2 hm2 := ⟨LR_low (by rw [q2.2.1]; exact LR_fr (LR_vH P.1 J q1.2) (EQ_r _) (frV_FX12_place _ _ hm (EQ_r hm))) lo1, OR_low (by rw [q2.2.1]; exact OR_fr (OR_vH P.2 q1.2) (EQ_r _) (frVE_FX12_place _ _ hm (EQ_r hm))) lo1⟩
  refine l_istore C dL_law_730 (by decide) rfl ?_
  refine l_goto (tgt := 1341) C dL_law_732 (by decide) ?_
  refine l_vl (lv' := lvL X (ad 0) (adm 0) o i) ?_ ⟨rfl, rfl, rfl, rfl, rfl, trivial⟩
  exact K _ _ _ _ _ _ _ _ e1 V1 ks1 I1 J1 P1
set_option maxRecDepth 100000 in
theorem LL_17 (C : LC X Y cL) (A : LA X i) (V : WS pr n S) (ks : KS n S h) (I : CT z h) (J : IT z hm) (P : LO h hm) (hc : cells + 2 ≤ 601024 ∧ slots + 62 ≤ 7293034) (K : LK X Y cL ad adm o i (cells + 2) (slots + 62)) : LJ X Y cL ((n, ad, S, h), (adm, hm), (o, f)) cells slots 735 (lvL X (ad 0) (adm 0) o i) [] := by
  have V6 : WS pr 60 S := ⟨Nat.le_refl _, V.2⟩
  refine l_aload_n C dL_law_735 rfl rfl ?_
  refine l_arg (v := 1) C A dL_law_736 dL_law_737 dL_law_739 dL_law_740 dL_law_741 rfl rfl (by decide) rfl ?_
  refine l_arg (v := 2) C A dL_law_742 dL_law_743 dL_law_745 dL_law_746 dL_law_747 rfl rfl (by decide) rfl ?_
  have sc := toC I (fun z1 z1i => SX11_thread (z := z1) (la X i 1) (la X i 2) h z1i)
  refine l_C C (R := fun r h' => (CT z h') ∧ h' = (FX11_thread (la X i 1) (la X i 2) h).2 ∧ r = (FX11_thread (la X i 1) (la X i 2) h).1) (MX11_thread V6 (la X i 1) (la X i 2) h sc.1) (fun r S' h' q => ⟨Or.inl q.1, by rw [q.2.1]; exact sc.2.2, q.2.1, q.2.2⟩) V ks dL_law_748 (CKX11_thread (by decide)) ⟨rfl, rfl⟩ lk_RL_101 in_X11_thread se_X11_thread rfl rfl (Nat.le_of_ble_eq_true rfl) hc (fun r1 pr1 n1 ad1 S1 h1 h2 q1 lo1 e1 V1 ks1 => ?_)
  have I1 := CT_low q1.1 lo1
  refine l_pop C dL_law_751 rfl ?_
  refine l_aload_n C dL_law_752 rfl rfl ?_
  refine l_arg (v := 1) C A dL_law_753 dL_law_754 dL_law_756 dL_law_757 dL_law_758 rfl rfl (by decide) rfl ?_
  refine l_arg (v := 2) C A dL_law_759 dL_law_760 dL_law_762 dL_law_763 dL_law_764 rfl rfl (by decide) rfl ?_
  have sr := toT J (fun z1 z1i => SX12_thread (z := z1) (la X i 1) (la X i 2) hm z1i)
  refine l_M (w := ((n1, ad1, S1, h2), (adm, hm), (o, f))) C (R := fun r h' => (IT z h') ∧ h' = (FX12_thread (la X i 1) (la X i 2) hm).2 ∧ r = (FX12_thread (la X i 1) (la X i 2) hm).1) (MX12_thread (la X i 1) (la X i 2) hm sr.1) (fun r S' h' q => ⟨q.1, by rw [q.2.1]; exact sr.2.2, q.2.1, q.2.2⟩) dL_law_765 (CKX12_thread (by decide)) ⟨rfl, rfl⟩ lk_RL_104 in_X12_thread se_X12_thread rfl rfl (Nat.le_of_ble_eq_true rfl) hc (fun r2 hm2 q2 => ?_)
  have J1 := q2.1
  have P1 : LO h2 hm2 := ⟨LR_low (by rw [q1.2.1, q2.2.1]; exact LR_thread P.1 J (la X i 1) (la X i 2)) lo1, OR_low (by rw [q1.2.1, q2.2.1]; exact OR_fr P.2 (frE_FX11_thread _ _ h (EQ_r h)) (frVE_FX12_thread _ _ hm (EQ_r hm))) lo1⟩
  refine l_pop C dL_law_768 rfl ?_
  refine l_goto (tgt := 1341) C dL_law_769 (by decide) ?_
  exact K _ _ _ _ _ _ _ _ e1 V1 ks1 I1 J1 P1
set_option maxRecDepth 100000 in
theorem LL_18 (C : LC X Y cL) (A : LA X i) (V : WS pr n S) (ks : KS n S h) (I : CT z h) (J : IT z hm) (P : LO h hm) (hc : cells + 2 ≤ 601024 ∧ slots + 62 ≤ 7293034) (K : LK X Y cL ad adm o i (cells + 2) (slots + 62)) : LJ X Y cL ((n, ad, S, h), (adm, hm), (o, f)) cells slots 772 (lvL X (ad 0) (adm 0) o i) [] := by
  have V6 : WS pr 60 S := ⟨Nat.le_refl _, V.2⟩
  refine l_aload_n C dL_law_772 rfl rfl ?_
  refine l_arg (v := 1) C A dL_law_773 dL_law_774 dL_law_776 dL_law_777 dL_law_778 rfl rfl (by decide) rfl ?_
  refine l_arg (v := 2) C A dL_law_779 dL_law_780 dL_law_782 dL_law_783 dL_law_784 rfl rfl (by decide) rfl ?_
  obtain ⟨z1, m1, z1i⟩ := I
  have sc := SX11_last (z := z1) (la X i 1) (la X i 2) h z1i
  refine l_C C (R := fun r h' => (CT z h') ∧ h' = h ∧ r = FX11_last (la X i 1) (la X i 2) h) (MX11_last V6 (la X i 1) (la X i 2) h sc.1) (fun r S' h' q => ⟨Or.inl q.1, by rw [q.2.1]; exact ⟨z1, m1, z1i⟩, q.2.1, q.2.2⟩) V ks dL_law_785 (CKX11_last (by decide)) ⟨rfl, rfl⟩ lk_RL_105 in_X11_last se_X11_last rfl rfl (Nat.le_of_ble_eq_true rfl) hc (fun r1 pr1 n1 ad1 S1 h1 h2 q1 lo1 e1 V1 ks1 => ?_)
  have I1 := CT_low q1.1 lo1
  refine l_pop C dL_law_788 rfl ?_
  refine l_aload_n C dL_law_789 rfl rfl ?_
  refine l_arg (v := 1) C A dL_law_790 dL_law_791 dL_law_793 dL_law_794 dL_law_795 rfl rfl (by decide) rfl ?_
  refine l_arg (v := 2) C A dL_law_796 dL_law_797 dL_law_799 dL_law_800 dL_law_801 rfl rfl (by decide) rfl ?_
  have sr := toT J (fun z1 z1i => SX12_last (z := z1) (la X i 1) (la X i 2) hm z1i)
  refine l_M (w := ((n1, ad1, S1, h2), (adm, hm), (o, f))) C (R := fun r h' => (IT z h') ∧ h' = (FX12_last (la X i 1) (la X i 2) hm).2 ∧ r = (FX12_last (la X i 1) (la X i 2) hm).1) (MX12_last (la X i 1) (la X i 2) hm sr.1) (fun r S' h' q => ⟨q.1, by rw [q.2.1]; exact sr.2.2, q.2.1, q.2.2⟩) dL_law_802 (CKX12_last (by decide)) ⟨rfl, rfl⟩ lk_RL_108 in_X12_last se_X12_last rfl rfl (Nat.le_of_ble_eq_true rfl) hc (fun r2 hm2 q2 => ?_)
  have J1 := q2.1
  have P1 : LO h2 hm2 := ⟨LR_low (by rw [q1.2.1, q2.2.1]; exact LR_fr P.1 (EQ_r h) (frV_FX12_last _ _ hm (EQ_r hm))) lo1, OR_low (by rw [q1.2.1, q2.2.1]; exact OR_fr P.2 (EQ_r h) (frVE_FX12_last _ _ hm (EQ_r hm))) lo1⟩
  refine l_pop C dL_law_805 rfl ?_
  refine l_goto (tgt := 1341) C dL_law_806 (by decide) ?_
  exact K _ _ _ _ _ _ _ _ e1 V1 ks1 I1 J1 P1
set_option maxRecDepth 100000 in
theorem LL_19 (C : LC X Y cL) (A : LA X i) (V : WS pr n S) (ks : KS n S h) (I : CT z h) (J : IT z hm) (P : LO h hm) (hc : cells + 2 ≤ 601024 ∧ slots + 62 ≤ 7293034) (K : LK X Y cL ad adm o i (cells + 2) (slots + 62)) : LJ X Y cL ((n, ad, S, h), (adm, hm), (o, f)) cells slots 809 (lvL X (ad 0) (adm 0) o i) [] := by
  have V6 : WS pr 60 S := ⟨Nat.le_refl _, V.2⟩
  refine l_aload_n C dL_law_809 rfl rfl ?_
  refine l_arg (v := 1) C A dL_law_810 dL_law_811 dL_law_813 dL_law_814 dL_law_815 rfl rfl (by decide) rfl ?_
  refine l_arg (v := 2) C A dL_law_816 dL_law_817 dL_law_819 dL_law_820 dL_law_821 rfl rfl (by decide) rfl ?_
  obtain ⟨z1, m1, z1i⟩ := I
  have sc := SX11_next (z := z1) (la X i 1) (la X i 2) h z1i
  refine l_C C (R := fun r h' => (CT z h') ∧ h' = h ∧ r = FX11_next (la X i 1) (la X i 2) h) (MX11_next V6 (la X i 1) (la X i 2) h sc.1) (fun r S' h' q => ⟨Or.inl q.1, by rw [q.2.1]; exact ⟨z1, m1, z1i⟩, q.2.1, q.2.2⟩) V ks dL_law_822 (CKX11_next (by decide)) ⟨rfl, rfl⟩ lk_RL_109 in_X11_next se_X11_next rfl rfl (Nat.le_of_ble_eq_true rfl) hc (fun r1 pr1 n1 ad1 S1 h1 h2 q1 lo1 e1 V1 ks1 => ?_)
  have I1 := CT_low q1.1 lo1
  refine l_pop C dL_law_825 rfl ?_
  refine l_aload_n C dL_law_826 rfl rfl ?_
  refine l_arg (v := 1) C A dL_law_827 dL_law_828 dL_law_830 dL_law_831 dL_law_832 rfl rfl (by decide) rfl ?_
  refine l_arg (v := 2) C A dL_law_833 dL_law_834 dL_law_836 dL_law_837 dL_law_838 rfl rfl (by decide) rfl ?_
  have sr := toT J (fun z1 z1i => SX12_next (z := z1) (la X i 1) (la X i 2) hm z1i)
  refine l_M (w := ((n1, ad1, S1, h2), (adm, hm), (o, f))) C (R := fun r h' => (IT z h') ∧ h' = (FX12_next (la X i 1) (la X i 2) hm).2 ∧ r = (FX12_next (la X i 1) (la X i 2) hm).1) (MX12_next (la X i 1) (la X i 2) hm sr.1) (fun r S' h' q => ⟨q.1, by rw [q.2.1]; exact sr.2.2, q.2.1, q.2.2⟩) dL_law_839 (CKX12_next (by decide)) ⟨rfl, rfl⟩ lk_RL_112 in_X12_next se_X12_next rfl rfl (Nat.le_of_ble_eq_true rfl) hc (fun r2 hm2 q2 => ?_)
  have J1 := q2.1
  have P1 : LO h2 hm2 := ⟨LR_low (by rw [q1.2.1, q2.2.1]; exact LR_fr P.1 (EQ_r h) (frV_FX12_next _ _ hm (EQ_r hm))) lo1, OR_low (by rw [q1.2.1, q2.2.1]; exact OR_fr P.2 (EQ_r h) (frVE_FX12_next _ _ hm (EQ_r hm))) lo1⟩
  refine l_pop C dL_law_842 rfl ?_
  refine l_goto (tgt := 1341) C dL_law_843 (by decide) ?_
  exact K _ _ _ _ _ _ _ _ e1 V1 ks1 I1 J1 P1
set_option maxRecDepth 100000 in
theorem LL_20 (C : LC X Y cL) (A : LA X i) (V : WS pr n S) (ks : KS n S h) (I : CT z h) (J : IT z hm) (P : LO h hm) (hc : cells + 2 ≤ 601024 ∧ slots + 62 ≤ 7293034) (K : LK X Y cL ad adm o i (cells + 2) (slots + 62)) : LJ X Y cL ((n, ad, S, h), (adm, hm), (o, f)) cells slots 846 (lvL X (ad 0) (adm 0) o i) [] := by
  have V6 : WS pr 60 S := ⟨Nat.le_refl _, V.2⟩
  refine l_aload_n C dL_law_846 rfl rfl ?_
  refine l_arg (v := 1) C A dL_law_847 dL_law_848 dL_law_850 dL_law_851 dL_law_852 rfl rfl (by decide) rfl ?_
  refine l_arg (v := 2) C A dL_law_853 dL_law_854 dL_law_856 dL_law_857 dL_law_858 rfl rfl (by decide) rfl ?_
  refine l_arg (v := 3) C A dL_law_859 dL_law_860 dL_law_862 dL_law_863 dL_law_864 rfl rfl (by decide) rfl ?_
  refine l_arg (v := 4) C A dL_law_865 dL_law_866 dL_law_868 dL_law_869 dL_law_870 rfl rfl (by decide) rfl ?_
  obtain ⟨z1, m1, z1i⟩ := I
  have sc := SX11_when (z := z1) (la X i 1) (la X i 2) (la X i 3) (la X i 4) h z1i
  refine l_C C (R := fun r h' => (CT z h') ∧ h' = h ∧ r = FX11_when (la X i 1) (la X i 2) (la X i 3) (la X i 4) h) (MX11_when V6 (la X i 1) (la X i 2) (la X i 3) (la X i 4) h sc.1) (fun r S' h' q => ⟨Or.inl q.1, by rw [q.2.1]; exact ⟨z1, m1, z1i⟩, q.2.1, q.2.2⟩) V ks dL_law_871 (CKX11_when (by decide)) ⟨rfl, rfl⟩ lk_RL_113 in_X11_when se_X11_when rfl rfl (Nat.le_of_ble_eq_true rfl) hc (fun r1 pr1 n1 ad1 S1 h1 h2 q1 lo1 e1 V1 ks1 => ?_)
  have I1 := CT_low q1.1 lo1
  refine l_pop C dL_law_874 rfl ?_
  refine l_aload_n C dL_law_875 rfl rfl ?_
  refine l_arg (v := 1) C A dL_law_876 dL_law_877 dL_law_879 dL_law_880 dL_law_881 rfl rfl (by decide) rfl ?_
  refine l_arg (v := 2) C A dL_law_882 dL_law_883 dL_law_885 dL_law_886 dL_law_887 rfl rfl (by decide) rfl ?_
  refine l_arg (v := 3) C A dL_law_888 dL_law_889 dL_law_891 dL_law_892 dL_law_893 rfl rfl (by decide) rfl ?_
  refine l_arg (v := 4) C A dL_law_894 dL_law_895 dL_law_897 dL_law_898 dL_law_899 rfl rfl (by decide) rfl ?_
  have sr := toT J (fun z1 z1i => SX12_when (z := z1) (la X i 1) (la X i 2) (la X i 3) (la X i 4) hm z1i)
  refine l_M (w := ((n1, ad1, S1, h2), (adm, hm), (o, f))) C (R := fun r h' => (IT z h') ∧ h' = (FX12_when (la X i 1) (la X i 2) (la X i 3) (la X i 4) hm).2 ∧ r = (FX12_when (la X i 1) (la X i 2) (la X i 3) (la X i 4) hm).1) (MX12_when (la X i 1) (la X i 2) (la X i 3) (la X i 4) hm sr.1) (fun r S' h' q => ⟨q.1, by rw [q.2.1]; exact sr.2.2, q.2.1, q.2.2⟩) dL_law_900 (CKX12_when (by decide)) ⟨rfl, rfl⟩ lk_RL_117 in_X12_when se_X12_when rfl rfl (Nat.le_of_ble_eq_true rfl) hc (fun r2 hm2 q2 => ?_)
  have J1 := q2.1
  have P1 : LO h2 hm2 := ⟨LR_low (by rw [q1.2.1, q2.2.1]; exact LR_fr P.1 (EQ_r h) (frV_FX12_when _ _ _ _ hm (EQ_r hm))) lo1, OR_low (by rw [q1.2.1, q2.2.1]; exact OR_fr P.2 (EQ_r h) (frVE_FX12_when _ _ _ _ hm (EQ_r hm))) lo1⟩
  refine l_pop C dL_law_903 rfl ?_
  refine l_goto (tgt := 1341) C dL_law_904 (by decide) ?_
  exact K _ _ _ _ _ _ _ _ e1 V1 ks1 I1 J1 P1
set_option maxRecDepth 100000 in
theorem LL_21 (C : LC X Y cL) (A : LA X i) (V : WS pr n S) (ks : KS n S h) (I : CT z h) (J : IT z hm) (P : LO h hm) (hc : cells + 2 ≤ 601024 ∧ slots + 62 ≤ 7293034) (K : LK X Y cL ad adm o i (cells + 2) (slots + 62)) : LJ X Y cL ((n, ad, S, h), (adm, hm), (o, f)) cells slots 907 (lvL X (ad 0) (adm 0) o i) [] := by
  have V6 : WS pr 60 S := ⟨Nat.le_refl _, V.2⟩
  refine l_aload_n C dL_law_907 rfl rfl ?_
  refine l_arg (v := 1) C A dL_law_908 dL_law_909 dL_law_911 dL_law_912 dL_law_913 rfl rfl (by decide) rfl ?_
  refine l_arg (v := 2) C A dL_law_914 dL_law_915 dL_law_917 dL_law_918 dL_law_919 rfl rfl (by decide) rfl ?_
  have sc := toC I (fun z1 z1i => SX11_ahead (z := z1) (la X i 1) (la X i 2) h z1i)
  refine l_C C (R := fun r h' => (CT z h') ∧ h' = (FX11_ahead (la X i 1) (la X i 2) h).2 ∧ r = (FX11_ahead (la X i 1) (la X i 2) h).1) (MX11_ahead V6 (la X i 1) (la X i 2) h sc.1) (fun r S' h' q => ⟨Or.inl q.1, by rw [q.2.1]; exact sc.2.2, q.2.1, q.2.2⟩) V ks dL_law_920 (CKX11_ahead (by decide)) ⟨rfl, rfl⟩ lk_RL_118 in_X11_ahead se_X11_ahead rfl rfl (Nat.le_of_ble_eq_true rfl) hc (fun r1 pr1 n1 ad1 S1 h1 h2 q1 lo1 e1 V1 ks1 => ?_)
  have I1 := CT_low q1.1 lo1
  refine l_pop C dL_law_923 rfl ?_
  refine l_aload_n C dL_law_924 rfl rfl ?_
  refine l_arg (v := 1) C A dL_law_925 dL_law_926 dL_law_928 dL_law_929 dL_law_930 rfl rfl (by decide) rfl ?_
  refine l_arg (v := 2) C A dL_law_931 dL_law_932 dL_law_934 dL_law_935 dL_law_936 rfl rfl (by decide) rfl ?_
  have sr := toT J (fun z1 z1i => SX12_ahead (z := z1) (la X i 1) (la X i 2) hm z1i)
  refine l_M (w := ((n1, ad1, S1, h2), (adm, hm), (o, f))) C (R := fun r h' => (IT z h') ∧ h' = (FX12_ahead (la X i 1) (la X i 2) hm).2 ∧ r = (FX12_ahead (la X i 1) (la X i 2) hm).1) (MX12_ahead (la X i 1) (la X i 2) hm sr.1) (fun r S' h' q => ⟨q.1, by rw [q.2.1]; exact sr.2.2, q.2.1, q.2.2⟩) dL_law_937 (CKX12_ahead (by decide)) ⟨rfl, rfl⟩ lk_RL_121 in_X12_ahead se_X12_ahead rfl rfl (Nat.le_of_ble_eq_true rfl) hc (fun r2 hm2 q2 => ?_)
  have J1 := q2.1
  have P1 : LO h2 hm2 := ⟨LR_low (by rw [q1.2.1, q2.2.1]; exact LR_fr P.1 (frC_FX11_ahead _ _ h (EQ_r h)) (frV_FX12_ahead _ _ hm (EQ_r hm))) lo1, OR_low (by rw [q1.2.1, q2.2.1]; exact (ahead_two P.1 P.2 J (la X i 1) (la X i 2)).2) lo1⟩
  refine l_pop C dL_law_940 rfl ?_
  refine l_goto (tgt := 1341) C dL_law_941 (by decide) ?_
  exact K _ _ _ _ _ _ _ _ e1 V1 ks1 I1 J1 P1
set_option maxRecDepth 100000 in
theorem LL_22 (C : LC X Y cL) (A : LA X i) (V : WS pr n S) (ks : KS n S h) (I : CT z h) (J : IT z hm) (P : LO h hm) (hc : cells + 2 ≤ 601024 ∧ slots + 62 ≤ 7293034) (K : LK X Y cL ad adm o i (cells + 2) (slots + 62)) : LJ X Y cL ((n, ad, S, h), (adm, hm), (o, f)) cells slots 944 (lvL X (ad 0) (adm 0) o i) [] := by
  have V6 : WS pr 60 S := ⟨Nat.le_refl _, V.2⟩
  refine l_aload_n C dL_law_944 rfl rfl ?_
  refine l_arg (v := 1) C A dL_law_945 dL_law_946 dL_law_948 dL_law_949 dL_law_950 rfl rfl (by decide) rfl ?_
  refine l_arg (v := 2) C A dL_law_951 dL_law_952 dL_law_954 dL_law_955 dL_law_956 rfl rfl (by decide) rfl ?_
  have sc := toC I (fun z1 z1i => SX11_race (z := z1) (la X i 1) (la X i 2) h z1i)
  refine l_C C (R := fun r h' => (CT z h') ∧ h' = (FX11_race (la X i 1) (la X i 2) h).2 ∧ r = (FX11_race (la X i 1) (la X i 2) h).1) (MX11_race V6 (la X i 1) (la X i 2) h sc.1) (fun r S' h' q => ⟨Or.inl q.1, by rw [q.2.1]; exact sc.2.2, q.2.1, q.2.2⟩) V ks dL_law_957 (CKX11_race (by decide)) ⟨rfl, rfl⟩ lk_RL_122 in_X11_race se_X11_race rfl rfl (Nat.le_of_ble_eq_true rfl) hc (fun r1 pr1 n1 ad1 S1 h1 h2 q1 lo1 e1 V1 ks1 => ?_)
  have I1 := CT_low q1.1 lo1
  refine l_aload_n C dL_law_960 rfl rfl ?_
  refine l_arg (v := 1) C A dL_law_961 dL_law_962 dL_law_964 dL_law_965 dL_law_966 rfl rfl (by decide) rfl ?_
  refine l_arg (v := 2) C A dL_law_967 dL_law_968 dL_law_970 dL_law_971 dL_law_972 rfl rfl (by decide) rfl ?_
  have sr := toT J (fun z1 z1i => SX12_race (z := z1) (la X i 1) (la X i 2) hm z1i)
  refine l_M (w := ((n1, ad1, S1, h2), (adm, hm), (o, f))) C (R := fun r h' => (IT z h') ∧ h' = (FX12_race (la X i 1) (la X i 2) hm).2 ∧ r = (FX12_race (la X i 1) (la X i 2) hm).1) (MX12_race (la X i 1) (la X i 2) hm sr.1) (fun r S' h' q => ⟨q.1, by rw [q.2.1]; exact sr.2.2, q.2.1, q.2.2⟩) dL_law_973 (CKX12_race (by decide)) ⟨rfl, rfl⟩ lk_RL_125 in_X12_race se_X12_race rfl rfl (Nat.le_of_ble_eq_true rfl) hc (fun r2 hm2 q2 => ?_)
  have J1 := q2.1
  have P1 : LO h2 hm2 := ⟨LR_low (by rw [q1.2.1, q2.2.1]; exact LR_fr P.1 (frC_FX11_race _ _ h (EQ_r h)) (frV_FX12_race _ _ hm (EQ_r hm))) lo1, OR_low (by rw [q1.2.1, q2.2.1]; exact (race_two P.1 P.2 J (la X i 1) (la X i 2)).2) lo1⟩
  refine l_icmp_eq (tgt := 1341) C dL_law_976 (by decide) (fun _ => ?_) (fun x => absurd (q1.2.2.trans (((race_two P.1 P.2 J (la X i 1) (la X i 2)).1).trans q2.2.2.symm)) x)
  exact K _ _ _ _ _ _ _ _ e1 V1 ks1 I1 J1 P1
set_option maxRecDepth 100000 in
theorem LL_23 (C : LC X Y cL) (A : LA X i) (V : WS pr n S) (ks : KS n S h) (I : CT z h) (J : IT z hm) (P : LO h hm) (hc : cells + 2 ≤ 601024 ∧ slots + 62 ≤ 7293034) (K : LK X Y cL ad adm o i (cells + 2) (slots + 62)) : LJ X Y cL ((n, ad, S, h), (adm, hm), (o, f)) cells slots 981 (lvL X (ad 0) (adm 0) o i) [] := by
  have V6 : WS pr 60 S := ⟨Nat.le_refl _, V.2⟩
  refine l_aload_n C dL_law_981 rfl rfl ?_
  refine l_arg (v := 1) C A dL_law_982 dL_law_983 dL_law_985 dL_law_986 dL_law_987 rfl rfl (by decide) rfl ?_
  refine l_arg (v := 2) C A dL_law_988 dL_law_989 dL_law_991 dL_law_992 dL_law_993 rfl rfl (by decide) rfl ?_
  have sc := toC I (fun z1 z1i => SX11_differ (z := z1) (la X i 1) (la X i 2) h z1i)
  refine l_C C (R := fun r h' => (CT z h') ∧ h' = (FX11_differ (la X i 1) (la X i 2) h).2 ∧ r = (FX11_differ (la X i 1) (la X i 2) h).1) (MX11_differ V6 (la X i 1) (la X i 2) h sc.1) (fun r S' h' q => ⟨q.1, by rw [q.2.1]; exact sc.2.2, q.2.1, q.2.2⟩) V ks dL_law_994 (CKX11_differ (by decide)) ⟨rfl, rfl⟩ lk_RL_126 in_X11_differ se_X11_differ rfl rfl (Nat.le_of_ble_eq_true rfl) hc (fun r1 pr1 n1 ad1 S1 h1 h2 q1 lo1 e1 V1 ks1 => ?_)
  have I1 := CT_low q1.1 lo1
  refine l_pop C dL_law_997 rfl ?_
  refine l_aload_n C dL_law_998 rfl rfl ?_
  refine l_arg (v := 1) C A dL_law_999 dL_law_1000 dL_law_1002 dL_law_1003 dL_law_1004 rfl rfl (by decide) rfl ?_
  refine l_arg (v := 2) C A dL_law_1005 dL_law_1006 dL_law_1008 dL_law_1009 dL_law_1010 rfl rfl (by decide) rfl ?_
  have sr := toT J (fun z1 z1i => SX12_differ (z := z1) (la X i 1) (la X i 2) hm z1i)
  refine l_M (w := ((n1, ad1, S1, h2), (adm, hm), (o, f))) C (R := fun r h' => (IT z h') ∧ h' = (FX12_differ (la X i 1) (la X i 2) hm).2 ∧ r = (FX12_differ (la X i 1) (la X i 2) hm).1) (MX12_differ (la X i 1) (la X i 2) hm sr.1) (fun r S' h' q => ⟨q.1, by rw [q.2.1]; exact sr.2.2, q.2.1, q.2.2⟩) dL_law_1011 (CKX12_differ (by decide)) ⟨rfl, rfl⟩ lk_RL_129 in_X12_differ se_X12_differ rfl rfl (Nat.le_of_ble_eq_true rfl) hc (fun r2 hm2 q2 => ?_)
  have J1 := q2.1
  have P1 : LO h2 hm2 := ⟨LR_low (by rw [q1.2.1, q2.2.1]; exact LR_differ P.1 J (la X i 1) (la X i 2)) lo1, OR_low (by rw [q1.2.1, q2.2.1]; exact OR_fr P.2 (frE_FX11_differ _ _ h (EQ_r h)) (frVE_FX12_differ _ _ hm (EQ_r hm))) lo1⟩
  refine l_pop C dL_law_1014 rfl ?_
  refine l_goto (tgt := 1341) C dL_law_1015 (by decide) ?_
  exact K _ _ _ _ _ _ _ _ e1 V1 ks1 I1 J1 P1
set_option maxRecDepth 100000 in
theorem LL_24 (C : LC X Y cL) (A : LA X i) (V : WS pr n S) (ks : KS n S h) (I : CT z h) (J : IT z hm) (P : LO h hm) (hc : cells + 2 ≤ 601024 ∧ slots + 62 ≤ 7293034) (K : LK X Y cL ad adm o i (cells + 2) (slots + 62)) : LJ X Y cL ((n, ad, S, h), (adm, hm), (o, f)) cells slots 1018 (lvL X (ad 0) (adm 0) o i) [] := by
  have V6 : WS pr 60 S := ⟨Nat.le_refl _, V.2⟩
  refine l_aload_n C dL_law_1018 rfl rfl ?_
  refine l_arg (v := 1) C A dL_law_1019 dL_law_1020 dL_law_1022 dL_law_1023 dL_law_1024 rfl rfl (by decide) rfl ?_
  refine l_arg (v := 2) C A dL_law_1025 dL_law_1026 dL_law_1028 dL_law_1029 dL_law_1030 rfl rfl (by decide) rfl ?_
  have sc := SX11_find_T (z := z) (la X i 1) (la X i 2) h I
  refine l_C C (R := fun r h' => (CT z h') ∧ h' = (FX11_find (la X i 1) (la X i 2) h).2 ∧ r = (FX11_find (la X i 1) (la X i 2) h).1) (MX11_find V6 (la X i 1) (la X i 2) h sc.1) (fun r S' h' q => ⟨q.1, by rw [q.2.1]; exact sc.2.2, q.2.1, q.2.2⟩) V ks dL_law_1031 (CKX11_find (by decide)) ⟨rfl, rfl⟩ lk_RL_130 in_X11_find se_X11_find rfl rfl (Nat.le_of_ble_eq_true rfl) hc (fun r1 pr1 n1 ad1 S1 h1 h2 q1 lo1 e1 V1 ks1 => ?_)
  have I1 := CT_low q1.1 lo1
  refine l_pop C dL_law_1034 rfl ?_
  refine l_aload_n C dL_law_1035 rfl rfl ?_
  refine l_arg (v := 1) C A dL_law_1036 dL_law_1037 dL_law_1039 dL_law_1040 dL_law_1041 rfl rfl (by decide) rfl ?_
  refine l_arg (v := 2) C A dL_law_1042 dL_law_1043 dL_law_1045 dL_law_1046 dL_law_1047 rfl rfl (by decide) rfl ?_
  have sr := SX12_find (z := z) (la X i 1) (la X i 2) hm J
  refine l_M (w := ((n1, ad1, S1, h2), (adm, hm), (o, f))) C (R := fun r h' => (IT z h') ∧ h' = (FX12_find (la X i 1) (la X i 2) hm).2 ∧ r = (FX12_find (la X i 1) (la X i 2) hm).1) (MX12_find (la X i 1) (la X i 2) hm sr.1) (fun r S' h' q => ⟨q.1, by rw [q.2.1]; exact sr.2.2, q.2.1, q.2.2⟩) dL_law_1048 (CKX12_find (by decide)) ⟨rfl, rfl⟩ lk_RL_133 in_X12_find se_X12_find rfl rfl (Nat.le_of_ble_eq_true rfl) hc (fun r2 hm2 q2 => ?_)
  have J1 := q2.1
  have P1 : LO h2 hm2 := ⟨LR_low (by rw [q1.2.1, q2.2.1]; exact (find_both P.1 J (ct54 I) (la X i 1) (la X i 2)).2) lo1, OR_low (by rw [q1.2.1, q2.2.1]; exact OR_fr P.2 (frE_FX11_find _ _ h (EQ_r h)) (frVE_FX12_find _ _ hm (EQ_r hm))) lo1⟩
  refine l_pop C dL_law_1051 rfl ?_
  refine l_goto (tgt := 1341) C dL_law_1052 (by decide) ?_
  exact K _ _ _ _ _ _ _ _ e1 V1 ks1 I1 J1 P1
set_option maxRecDepth 100000 in
theorem LL_25 (C : LC X Y cL) (A : LA X i) (V : WS pr n S) (ks : KS n S h) (I : CT z h) (J : IT z hm) (P : LO h hm) (hc : cells + 2 ≤ 601024 ∧ slots + 62 ≤ 7293034) (K : LK X Y cL ad adm o i (cells + 2) (slots + 62)) : LJ X Y cL ((n, ad, S, h), (adm, hm), (o, f)) cells slots 1055 (lvL X (ad 0) (adm 0) o i) [] := by
  have V6 : WS pr 60 S := ⟨Nat.le_refl _, V.2⟩
  refine l_aload_n C dL_law_1055 rfl rfl ?_
  refine l_arg (v := 1) C A dL_law_1056 dL_law_1057 dL_law_1059 dL_law_1060 dL_law_1061 rfl rfl (by decide) rfl ?_
  obtain ⟨z1, m1, z1i⟩ := I
  have sc := SX11_found (z := z1) (la X i 1) h z1i
  refine l_C C (R := fun r h' => (CT z h') ∧ h' = h ∧ r = FX11_found (la X i 1) h) (MX11_found V6 (la X i 1) h sc.1) (fun r S' h' q => ⟨Or.inl q.1, by rw [q.2.1]; exact ⟨z1, m1, z1i⟩, q.2.1, q.2.2⟩) V ks dL_law_1062 (CKX11_found (by decide)) ⟨rfl, rfl⟩ lk_RL_134 in_X11_found se_X11_found rfl rfl (Nat.le_of_ble_eq_true rfl) hc (fun r1 pr1 n1 ad1 S1 h1 h2 q1 lo1 e1 V1 ks1 => ?_)
  have I1 := CT_low q1.1 lo1
  refine l_pop C dL_law_1065 rfl ?_
  refine l_aload_n C dL_law_1066 rfl rfl ?_
  refine l_arg (v := 1) C A dL_law_1067 dL_law_1068 dL_law_1070 dL_law_1071 dL_law_1072 rfl rfl (by decide) rfl ?_
  have sr := toT J (fun z1 z1i => SX12_found (z := z1) (la X i 1) hm z1i)
  refine l_M (w := ((n1, ad1, S1, h2), (adm, hm), (o, f))) C (R := fun r h' => (IT z h') ∧ h' = (FX12_found (la X i 1) hm).2 ∧ r = (FX12_found (la X i 1) hm).1) (MX12_found (la X i 1) hm sr.1) (fun r S' h' q => ⟨q.1, by rw [q.2.1]; exact sr.2.2, q.2.1, q.2.2⟩) dL_law_1073 (CKX12_found (by decide)) ⟨rfl, rfl⟩ lk_RL_137 in_X12_found se_X12_found rfl rfl (Nat.le_of_ble_eq_true rfl) hc (fun r2 hm2 q2 => ?_)
  have J1 := q2.1
  have P1 : LO h2 hm2 := ⟨LR_low (by rw [q1.2.1, q2.2.1]; exact LR_fr P.1 (EQ_r h) (frV_FX12_found _ hm (EQ_r hm))) lo1, OR_low (by rw [q1.2.1, q2.2.1]; exact OR_fr P.2 (EQ_r h) (frVE_FX12_found _ hm (EQ_r hm))) lo1⟩
  refine l_pop C dL_law_1076 rfl ?_
  refine l_goto (tgt := 1341) C dL_law_1077 (by decide) ?_
  exact K _ _ _ _ _ _ _ _ e1 V1 ks1 I1 J1 P1
set_option maxRecDepth 100000 in
theorem LL_26 (C : LC X Y cL) (A : LA X i) (V : WS pr n S) (ks : KS n S h) (I : CT z h) (J : IT z hm) (P : LO h hm) (hc : cells + 2 ≤ 601024 ∧ slots + 62 ≤ 7293034) (K : LK X Y cL ad adm o i (cells + 2) (slots + 62)) : LJ X Y cL ((n, ad, S, h), (adm, hm), (o, f)) cells slots 1080 (lvL X (ad 0) (adm 0) o i) [] := by
  have V6 : WS pr 60 S := ⟨Nat.le_refl _, V.2⟩
  refine l_aload_n C dL_law_1080 rfl rfl ?_
  refine l_arg (v := 1) C A dL_law_1081 dL_law_1082 dL_law_1084 dL_law_1085 dL_law_1086 rfl rfl (by decide) rfl ?_
  refine l_arg (v := 2) C A dL_law_1087 dL_law_1088 dL_law_1090 dL_law_1091 dL_law_1092 rfl rfl (by decide) rfl ?_
  refine l_arg (v := 3) C A dL_law_1093 dL_law_1094 dL_law_1096 dL_law_1097 dL_law_1098 rfl rfl (by decide) rfl ?_
  obtain ⟨z1, m1, z1i⟩ := I
  refine l_G C (R := fun r h' => CT z h' ∧ kpH h h') (GX11_keep V ks z1i (la X i 1) (la X i 2) (la X i 3)) (fun r u q => q.elim (fun h' q => ⟨h', ⟨kp_CT m1 z1i q.1, q.1⟩, q.2⟩)) V ks dL_law_1099 (CKX11_keep (by decide)) ⟨by decide, by decide⟩ lk_RL_138 in_X11_keep se_X11_keep rfl rfl (Nat.le_of_ble_eq_true rfl) hc (fun r1 pr1 n1 ad1 S1 h1 h2 q1 lo1 e1 V1 ks1 => ?_)
  have I1 := CT_low q1.1 lo1
  refine l_pop C dL_law_1102 rfl ?_
  refine l_aload_n C dL_law_1103 rfl rfl ?_
  refine l_arg (v := 1) C A dL_law_1104 dL_law_1105 dL_law_1107 dL_law_1108 dL_law_1109 rfl rfl (by decide) rfl ?_
  refine l_arg (v := 2) C A dL_law_1110 dL_law_1111 dL_law_1113 dL_law_1114 dL_law_1115 rfl rfl (by decide) rfl ?_
  refine l_arg (v := 3) C A dL_law_1116 dL_law_1117 dL_law_1119 dL_law_1120 dL_law_1121 rfl rfl (by decide) rfl ?_
  have sr := toT J (fun z1 z1i => SX12_keep_ (z := z1) (la X i 1) (la X i 2) (la X i 3) hm z1i)
  refine l_M (w := ((n1, ad1, S1, h2), (adm, hm), (o, f))) C (R := fun r h' => (IT z h') ∧ h' = (FX12_keep_ (la X i 1) (la X i 2) (la X i 3) hm).2 ∧ r = (FX12_keep_ (la X i 1) (la X i 2) (la X i 3) hm).1) (MX12_keep_ (la X i 1) (la X i 2) (la X i 3) hm sr.1) (fun r S' h' q => ⟨q.1, by rw [q.2.1]; exact sr.2.2, q.2.1, q.2.2⟩) dL_law_1122 (CKX12_keep_ (by decide)) ⟨rfl, rfl⟩ lk_RL_141 in_X12_keep_ se_X12_keep_ rfl rfl (Nat.le_of_ble_eq_true rfl) hc (fun r2 hm2 q2 => ?_)
  have J1 := q2.1
  have P1 : LO h2 hm2 := ⟨LR_low (by rw [q2.2.1]; exact LR_fr (LR_kp P.1 J q1.2) (EQ_r _) (frV_FX12_keep_ _ _ _ hm (EQ_r hm))) lo1, OR_low (by rw [q2.2.1]; exact OR_fr (OR_kp P.2 q1.2) (EQ_r _) (frVE_FX12_keep_ _ _ _ hm (EQ_r hm))) lo1⟩
  refine l_pop C dL_law_1125 rfl ?_
  refine l_goto (tgt := 1341) C dL_law_1126 (by decide) ?_
  exact K _ _ _ _ _ _ _ _ e1 V1 ks1 I1 J1 P1
set_option maxRecDepth 100000 in
theorem LL_27 (C : LC X Y cL) (A : LA X i) (V : WS pr n S) (ks : KS n S h) (I : CT z h) (J : IT z hm) (P : LO h hm) (hc : cells + 2 ≤ 601024 ∧ slots + 62 ≤ 7293034) (K : LK X Y cL ad adm o i (cells + 2) (slots + 62)) : LJ X Y cL ((n, ad, S, h), (adm, hm), (o, f)) cells slots 1129 (lvL X (ad 0) (adm 0) o i) [] := by
  have V6 : WS pr 60 S := ⟨Nat.le_refl _, V.2⟩
  refine l_aload_n C dL_law_1129 rfl rfl ?_
  refine l_arg (v := 1) C A dL_law_1130 dL_law_1131 dL_law_1133 dL_law_1134 dL_law_1135 rfl rfl (by decide) rfl ?_
  refine l_arg (v := 2) C A dL_law_1136 dL_law_1137 dL_law_1139 dL_law_1140 dL_law_1141 rfl rfl (by decide) rfl ?_
  refine l_arg (v := 3) C A dL_law_1142 dL_law_1143 dL_law_1145 dL_law_1146 dL_law_1147 rfl rfl (by decide) rfl ?_
  refine l_G C (R := fun r h' => (r = FX11_make (la X i 1) (la X i 2) (la X i 3) ∧ CT z h') ∧ h' = h) (GX11_make V ks (la X i 1) (la X i 2) (la X i 3)) (fun r u q => ⟨h, ⟨⟨q.1, I⟩, rfl⟩, q.2⟩) V ks dL_law_1148 (CKX11_make (by decide)) ⟨by decide, by decide⟩ lk_RL_142 in_X11_make se_X11_make rfl rfl (Nat.le_of_ble_eq_true rfl) hc (fun r1 pr1 n1 ad1 S1 h1 h2 q1 lo1 e1 V1 ks1 => ?_)
  have I1 := CT_low q1.1.2 lo1
  refine l_pop C dL_law_1151 rfl ?_
  refine l_aload_n C dL_law_1152 rfl rfl ?_
  refine l_arg (v := 1) C A dL_law_1153 dL_law_1154 dL_law_1156 dL_law_1157 dL_law_1158 rfl rfl (by decide) rfl ?_
  refine l_arg (v := 2) C A dL_law_1159 dL_law_1160 dL_law_1162 dL_law_1163 dL_law_1164 rfl rfl (by decide) rfl ?_
  refine l_arg (v := 3) C A dL_law_1165 dL_law_1166 dL_law_1168 dL_law_1169 dL_law_1170 rfl rfl (by decide) rfl ?_
  have sr := toT J (fun z1 z1i => SX12_make (z := z1) (la X i 1) (la X i 2) (la X i 3) hm z1i)
  refine l_M (w := ((n1, ad1, S1, h2), (adm, hm), (o, f))) C (R := fun r h' => (IT z h') ∧ h' = (FX12_make (la X i 1) (la X i 2) (la X i 3) hm).2 ∧ r = (FX12_make (la X i 1) (la X i 2) (la X i 3) hm).1) (MX12_make (la X i 1) (la X i 2) (la X i 3) hm sr.1) (fun r S' h' q => ⟨q.1, by rw [q.2.1]; exact sr.2.2, q.2.1, q.2.2⟩) dL_law_1171 (CKX12_make (by decide)) ⟨rfl, rfl⟩ lk_RL_145 in_X12_make se_X12_make rfl rfl (Nat.le_of_ble_eq_true rfl) hc (fun r2 hm2 q2 => ?_)
  have J1 := q2.1
  have P1 : LO h2 hm2 := ⟨LR_low (by rw [q1.2, q2.2.1]; exact LR_fr P.1 (EQ_r h) (frV_FX12_make _ _ _ hm (EQ_r hm))) lo1, OR_low (by rw [q1.2, q2.2.1]; exact OR_fr P.2 (EQ_r h) (frVE_FX12_make _ _ _ hm (EQ_r hm))) lo1⟩
  refine l_pop C dL_law_1174 rfl ?_
  refine l_goto (tgt := 1341) C dL_law_1175 (by decide) ?_
  exact K _ _ _ _ _ _ _ _ e1 V1 ks1 I1 J1 P1
set_option maxRecDepth 100000 in
theorem LL_28 (C : LC X Y cL) (A : LA X i) (V : WS pr n S) (ks : KS n S h) (I : CT z h) (J : IT z hm) (P : LO h hm) (hc : cells + 2 ≤ 601024 ∧ slots + 62 ≤ 7293034) (K : LK X Y cL ad adm o i (cells + 2) (slots + 62)) : LJ X Y cL ((n, ad, S, h), (adm, hm), (o, f)) cells slots 1178 (lvL X (ad 0) (adm 0) o i) [] := by
  have V6 : WS pr 60 S := ⟨Nat.le_refl _, V.2⟩
  refine l_aload_n C dL_law_1178 rfl rfl ?_
  refine l_arg (v := 1) C A dL_law_1179 dL_law_1180 dL_law_1182 dL_law_1183 dL_law_1184 rfl rfl (by decide) rfl ?_
  refine l_arg (v := 2) C A dL_law_1185 dL_law_1186 dL_law_1188 dL_law_1189 dL_law_1190 rfl rfl (by decide) rfl ?_
  refine l_aload_n C dL_law_1191 rfl rfl ?_
  refine l_HE C (HL_element (GX11_element C.tr V ks (la X i 1) (la X i 2)) (fun E u q => q.1) (Nat.lt_of_lt_of_le (by decide) V.1) (sh_0 V)) (fun r u q => he_post q) V ks dL_law_1192 cw_L_element iz_L ⟨by decide, by decide⟩ pd_L_element ⟨by decide, by decide⟩ ⟨by decide, by decide⟩ lk_RL_146 st_L_element rfl (Nat.le_of_ble_eq_true rfl) hc (fun r1 f1 => ?_)
  have I1 := I
  have e1 : ad 0 = ad 0 := rfl
  have V1 := V
  have ks1 := ks
  refine l_istore C dL_law_1195 (by decide) rfl ?_
  refine l_aload_n C dL_law_1197 rfl rfl ?_
  refine l_arg (v := 1) C A dL_law_1198 dL_law_1199 dL_law_1201 dL_law_1202 dL_law_1203 rfl rfl (by decide) rfl ?_
  refine l_arg (v := 2) C A dL_law_1204 dL_law_1205 dL_law_1207 dL_law_1208 dL_law_1209 rfl rfl (by decide) rfl ?_
  have sr := toT J (fun z1 z1i => SX12_element (z := z1) (la X i 1) (la X i 2) hm z1i)
  refine l_M (w := ((n, ad, S, h), (adm, hm), (o, f1))) C (R := fun r h' => (IT z h') ∧ h' = (FX12_element (la X i 1) (la X i 2) hm).2 ∧ r = (FX12_element (la X i 1) (la X i 2) hm).1) (MX12_element (la X i 1) (la X i 2) hm sr.1) (fun r S' h' q => ⟨q.1, by rw [q.2.1]; exact sr.2.2, q.2.1, q.2.2⟩) dL_law_1210 (CKX12_element (by decide)) ⟨rfl, rfl⟩ lk_RL_148 in_X12_element se_X12_element rfl rfl (Nat.le_of_ble_eq_true rfl) hc (fun r2 hm2 q2 => ?_)
  have J1 := q2.1
  have P1 : LO h hm2 := ⟨by rw [q2.2.1]; exact LR_fr P.1 (EQ_r h) (frV_FX12_element _ _ hm (EQ_r hm)), by rw [q2.2.1]; exact OR_fr P.2 (EQ_r h) (frVE_FX12_element _ _ hm (EQ_r hm))⟩
  refine l_istore C dL_law_1213 (by decide) rfl ?_
  refine l_goto (tgt := 1341) C dL_law_1215 (by decide) ?_
  refine l_vl (lv' := lvL X (ad 0) (adm 0) o i) ?_ ⟨rfl, rfl, rfl, rfl, rfl, trivial⟩
  exact K _ _ _ _ _ _ _ _ e1 V1 ks1 I1 J1 P1
set_option maxRecDepth 100000 in
theorem LL_29 (C : LC X Y cL) (A : LA X i) (V : WS pr n S) (ks : KS n S h) (I : CT z h) (J : IT z hm) (P : LO h hm) (hc : cells + 2 ≤ 601024 ∧ slots + 62 ≤ 7293034) (K : LK X Y cL ad adm o i (cells + 2) (slots + 62)) : LJ X Y cL ((n, ad, S, h), (adm, hm), (o, f)) cells slots 1218 (lvL X (ad 0) (adm 0) o i) [] := by
  have V6 : WS pr 60 S := ⟨Nat.le_refl _, V.2⟩
  refine l_aload_n C dL_law_1218 rfl rfl ?_
  refine l_arg (v := 1) C A dL_law_1219 dL_law_1220 dL_law_1222 dL_law_1223 dL_law_1224 rfl rfl (by decide) rfl ?_
  refine l_arg (v := 2) C A dL_law_1225 dL_law_1226 dL_law_1228 dL_law_1229 dL_law_1230 rfl rfl (by decide) rfl ?_
  refine l_arg (v := 3) C A dL_law_1231 dL_law_1232 dL_law_1234 dL_law_1235 dL_law_1236 rfl rfl (by decide) rfl ?_
  refine l_arg (v := 4) C A dL_law_1237 dL_law_1238 dL_law_1240 dL_law_1241 dL_law_1242 rfl rfl (by decide) rfl ?_
  refine l_arg (v := 5) C A dL_law_1243 dL_law_1244 dL_law_1246 dL_law_1247 dL_law_1248 rfl rfl (by decide) rfl ?_
  refine l_G C (R := fun r h' => CT z h' ∧ h' = h) (GX11_copy V ks (la X i 1) (la X i 2) (la X i 3) (la X i 4) (la X i 5)) (fun r u q => ⟨h, ⟨I, rfl⟩, q⟩) V ks dL_law_1249 (CKX11_copy (by decide)) ⟨by decide, by decide⟩ lk_RL_149 in_X11_copy se_X11_copy rfl rfl (Nat.le_of_ble_eq_true rfl) hc (fun r1 pr1 n1 ad1 S1 h1 h2 q1 lo1 e1 V1 ks1 => ?_)
  have I1 := CT_low q1.1 lo1
  refine l_pop C dL_law_1252 rfl ?_
  refine l_aload_n C dL_law_1253 rfl rfl ?_
  refine l_arg (v := 1) C A dL_law_1254 dL_law_1255 dL_law_1257 dL_law_1258 dL_law_1259 rfl rfl (by decide) rfl ?_
  refine l_arg (v := 2) C A dL_law_1260 dL_law_1261 dL_law_1263 dL_law_1264 dL_law_1265 rfl rfl (by decide) rfl ?_
  refine l_arg (v := 3) C A dL_law_1266 dL_law_1267 dL_law_1269 dL_law_1270 dL_law_1271 rfl rfl (by decide) rfl ?_
  refine l_arg (v := 4) C A dL_law_1272 dL_law_1273 dL_law_1275 dL_law_1276 dL_law_1277 rfl rfl (by decide) rfl ?_
  refine l_arg (v := 5) C A dL_law_1278 dL_law_1279 dL_law_1281 dL_law_1282 dL_law_1283 rfl rfl (by decide) rfl ?_
  have sr := toT J (fun z1 z1i => SX12_copy (z := z1) (la X i 1) (la X i 2) (la X i 3) (la X i 4) (la X i 5) hm z1i)
  refine l_M (w := ((n1, ad1, S1, h2), (adm, hm), (o, f))) C (R := fun r h' => (IT z h') ∧ h' = (FX12_copy (la X i 1) (la X i 2) (la X i 3) (la X i 4) (la X i 5) hm).2 ∧ r = (FX12_copy (la X i 1) (la X i 2) (la X i 3) (la X i 4) (la X i 5) hm).1) (MX12_copy (la X i 1) (la X i 2) (la X i 3) (la X i 4) (la X i 5) hm sr.1) (fun r S' h' q => ⟨q.1, by rw [q.2.1]; exact sr.2.2, q.2.1, q.2.2⟩) dL_law_1284 (CKX12_copy (by decide)) ⟨rfl, rfl⟩ lk_RL_152 in_X12_copy se_X12_copy rfl rfl (Nat.le_of_ble_eq_true rfl) hc (fun r2 hm2 q2 => ?_)
  have J1 := q2.1
  have P1 : LO h2 hm2 := ⟨LR_low (by rw [q1.2, q2.2.1]; exact LR_fr P.1 (EQ_r h) (frV_FX12_copy _ _ _ _ _ hm (EQ_r hm))) lo1, OR_low (by rw [q1.2, q2.2.1]; exact OR_fr P.2 (EQ_r h) (frVE_FX12_copy _ _ _ _ _ hm (EQ_r hm))) lo1⟩
  refine l_pop C dL_law_1287 rfl ?_
  refine l_goto (tgt := 1341) C dL_law_1288 (by decide) ?_
  exact K _ _ _ _ _ _ _ _ e1 V1 ks1 I1 J1 P1
set_option maxRecDepth 100000 in
theorem LL_30 (C : LC X Y cL) (A : LA X i) (V : WS pr n S) (ks : KS n S h) (I : CT z h) (J : IT z hm) (P : LO h hm) (hc : cells + 2 ≤ 601024 ∧ slots + 62 ≤ 7293034) (K : LK X Y cL ad adm o i (cells + 2) (slots + 62)) : LJ X Y cL ((n, ad, S, h), (adm, hm), (o, f)) cells slots 1291 (lvL X (ad 0) (adm 0) o i) [] := by
  have V6 : WS pr 60 S := ⟨Nat.le_refl _, V.2⟩
  refine l_aload_n C dL_law_1291 rfl rfl ?_
  refine l_arg (v := 1) C A dL_law_1292 dL_law_1293 dL_law_1295 dL_law_1296 dL_law_1297 rfl rfl (by decide) rfl ?_
  refine l_G C (R := fun r h' => CT z h' ∧ h' = h) (GX11_weight V ks (la X i 1)) (fun r u q => ⟨h, ⟨I, rfl⟩, by have q : u = (n, ad, S, h) := q; rw [q]; exact ⟨Nat.le_refl _, fun _ _ => rfl, V, ks, fun _ _ => rfl⟩⟩) V ks dL_law_1298 (CKX11_weight (by decide)) ⟨by decide, by decide⟩ lk_RL_153 in_X11_weight se_X11_weight rfl rfl (Nat.le_of_ble_eq_true rfl) hc (fun r1 pr1 n1 ad1 S1 h1 h2 q1 lo1 e1 V1 ks1 => ?_)
  have I1 := CT_low q1.1 lo1
  refine l_pop C dL_law_1301 rfl ?_
  refine l_aload_n C dL_law_1302 rfl rfl ?_
  refine l_arg (v := 1) C A dL_law_1303 dL_law_1304 dL_law_1306 dL_law_1307 dL_law_1308 rfl rfl (by decide) rfl ?_
  have sr := toT J (fun z1 z1i => SX12_weight (z := z1) (la X i 1) hm z1i)
  refine l_M (w := ((n1, ad1, S1, h2), (adm, hm), (o, f))) C (R := fun r h' => (IT z h') ∧ h' = (FX12_weight (la X i 1) hm).2 ∧ r = (FX12_weight (la X i 1) hm).1) (MX12_weight (la X i 1) hm sr.1) (fun r S' h' q => ⟨q.1, by rw [q.2.1]; exact sr.2.2, q.2.1, q.2.2⟩) dL_law_1309 (CKX12_weight (by decide)) ⟨rfl, rfl⟩ lk_RL_156 in_X12_weight se_X12_weight rfl rfl (Nat.le_of_ble_eq_true rfl) hc (fun r2 hm2 q2 => ?_)
  have J1 := q2.1
  have P1 : LO h2 hm2 := ⟨LR_low (by rw [q1.2, q2.2.1]; exact LR_fr P.1 (EQ_r h) (frV_FX12_weight _ hm (EQ_r hm))) lo1, OR_low (by rw [q1.2, q2.2.1]; exact OR_fr P.2 (EQ_r h) (frVE_FX12_weight _ hm (EQ_r hm))) lo1⟩
  refine l_pop C dL_law_1312 rfl ?_
  refine l_goto (tgt := 1341) C dL_law_1313 (by decide) ?_
  exact K _ _ _ _ _ _ _ _ e1 V1 ks1 I1 J1 P1
set_option maxRecDepth 100000 in
theorem LL_31 (C : LC X Y cL) (A : LA X i) (V : WS pr n S) (ks : KS n S h) (I : CT z h) (J : IT z hm) (P : LO h hm) (hc : cells + 2 ≤ 601024 ∧ slots + 62 ≤ 7293034) (K : LK X Y cL ad adm o i (cells + 2) (slots + 62)) : LJ X Y cL ((n, ad, S, h), (adm, hm), (o, f)) cells slots 1316 (lvL X (ad 0) (adm 0) o i) [] := by
  have V6 : WS pr 60 S := ⟨Nat.le_refl _, V.2⟩
  refine l_aload_n C dL_law_1316 rfl rfl ?_
  refine l_arg (v := 1) C A dL_law_1317 dL_law_1318 dL_law_1320 dL_law_1321 dL_law_1322 rfl rfl (by decide) rfl ?_
  refine l_G C (R := fun r h' => CT z h' ∧ h' = h) (GX11_toss C.tr V ks (la X i 1)) (fun r u q => ⟨h, ⟨I, rfl⟩, by have q : u = (n, ad, S, h) := q; rw [q]; exact ⟨Nat.le_refl _, fun _ _ => rfl, V, ks, fun _ _ => rfl⟩⟩) V ks dL_law_1323 (CKX11_toss (by decide)) ⟨by decide, by decide⟩ lk_RL_157 in_X11_toss se_X11_toss rfl rfl (Nat.le_of_ble_eq_true rfl) hc (fun r1 pr1 n1 ad1 S1 h1 h2 q1 lo1 e1 V1 ks1 => ?_)
  have I1 := CT_low q1.1 lo1
  refine l_pop C dL_law_1326 rfl ?_
  refine l_aload_n C dL_law_1327 rfl rfl ?_
  refine l_arg (v := 1) C A dL_law_1328 dL_law_1329 dL_law_1331 dL_law_1332 dL_law_1333 rfl rfl (by decide) rfl ?_
  have sr := toT J (fun z1 z1i => SX12_toss (z := z1) (la X i 1) hm z1i)
  refine l_M (w := ((n1, ad1, S1, h2), (adm, hm), (o, f))) C (R := fun r h' => (IT z h') ∧ h' = (FX12_toss (la X i 1) hm).2 ∧ r = (FX12_toss (la X i 1) hm).1) (MX12_toss (la X i 1) hm sr.1) (fun r S' h' q => ⟨q.1, by rw [q.2.1]; exact sr.2.2, q.2.1, q.2.2⟩) dL_law_1334 (CKX12_toss (by decide)) ⟨rfl, rfl⟩ lk_RL_160 in_X12_toss se_X12_toss rfl rfl (Nat.le_of_ble_eq_true rfl) hc (fun r2 hm2 q2 => ?_)
  have J1 := q2.1
  have P1 : LO h2 hm2 := ⟨LR_low (by rw [q1.2, q2.2.1]; exact LR_fr P.1 (EQ_r h) (frV_FX12_toss _ hm (EQ_r hm))) lo1, OR_low (by rw [q1.2, q2.2.1]; exact OR_fr P.2 (EQ_r h) (frVE_FX12_toss _ hm (EQ_r hm))) lo1⟩
  refine l_pop C dL_law_1337 rfl ?_
  refine l_goto (tgt := 1341) C dL_law_1338 (by decide) ?_
  exact K _ _ _ _ _ _ _ _ e1 V1 ks1 I1 J1 P1
end LCASE
