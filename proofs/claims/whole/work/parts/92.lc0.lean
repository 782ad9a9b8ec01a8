set_option maxHeartbeats 4000000 in
set_option maxRecDepth 100000 in
theorem lc_fund {p : Program} {l : Launch} {e : Env} {s : State} {m : MethodId} {below : List Frame} {meth : Method} {c : Code} {H : Heap} {locs : List Loc} {ls : Array Slot} {D : va_G} {cy : Nat → ClassId} {B0 b L : Nat} {xs : Nat → Int32} {ix : Nat → Nat} {o x0 : Nat} {Q : State → Prop} {n : Nat} {S : ST} (C0 : lwC p l s m c D cy B0 b L xs) (hn : 11 * (n : Int) + 11 ≤ L) (hI : cI n S) (hw : lwI D cy B0 s ix o b x0 (11 * n) S H locs ls) (kk : lcK p l e s m below meth c D cy B0 b ix o x0 Q n S) : W p l e room_1 s m #[Value.ref b] below meth c H locs (lcC n S) (lcS n S) Q (F0 m 164 ls []) := by
  obtain ⟨K, hK, hB, hX, hbl, hL, hst⟩ := C0
  obtain ⟨hx, hb, hml, hown, hts⟩ := id K
  obtain ⟨ad, bk, I, cX, qX, J, aM, qM, tM, v0, rfl, hP0, hE0, hW, hl⟩ := hw
  have hn5 : n < 512 := by omega
  have ho := hI.1.1
  have hwf := ho.1
  have he : S.1 31 0 + cNF S < 19900 := by have := hI.2.2.2.1; omega
  have h26 : S.1 26 0 < 100000 := by have := hI.2.2.2.2.1; omega
  have hlg := inv_lg4 hI.1.2.1 hI.1.2.2.1 hI.2.1
  have hs8 : S.1 8 0 < 60 → S.1 18 (S.1 8 0) ≠ 4 := fun h => by rw [(hI.1.2.2.2.2.2.2.2.2.2.1 _ (Int.le_refl _) h).1]; decide
  obtain ⟨a1, ha1⟩ : ∃ z, (xs (11 * (n : Int) + 1).toNat).toInt = z := ⟨_, rfl⟩
  have hr1 : rI a1 := ha1 ▸ rI_32 _
  obtain ⟨a2, ha2⟩ : ∃ z, (xs (11 * (n : Int) + 2).toNat).toInt = z := ⟨_, rfl⟩
  have hr2 : rI a2 := ha2 ▸ rI_32 _
  obtain ⟨a3, ha3⟩ : ∃ z, (xs (11 * (n : Int) + 3).toNat).toInt = z := ⟨_, rfl⟩
  have hr3 : rI a3 := ha3 ▸ rI_32 _
  refine lv_aload_n hx hb dL_law_164 rfl (lv_at hl 1 rfl) ?_
  refine lw_arg (j := 1) (k := 4) (iz := 11 * (n : Int)) hx hb hX hbl hB hW (lv_at hl 0 rfl) (lv_at hl 4 rfl) (by omega) (by decide) (by omega) hL dL_law_165 dL_law_166 (Or.inl ⟨dL_law_168, rfl⟩) dL_law_169 dL_law_170 ha1 ?_
  refine lw_arg (j := 2) (k := 4) (iz := 11 * (n : Int)) hx hb hX hbl hB hW (lv_at hl 0 rfl) (lv_at hl 4 rfl) (by omega) (by decide) (by omega) hL dL_law_171 dL_law_172 (Or.inl ⟨dL_law_174, rfl⟩) dL_law_175 dL_law_176 ha2 ?_
  refine lw_arg (j := 3) (k := 4) (iz := 11 * (n : Int)) hx hb hX hbl hB hW (lv_at hl 0 rfl) (lv_at hl 4 rfl) (by omega) (by decide) (by omega) hL dL_law_177 dL_law_178 (Or.inl ⟨dL_law_180, rfl⟩) dL_law_181 dL_law_182 ha3 ?_
  refine lv_aload_n hx hb dL_law_183 rfl (lv_at hl 3 rfl) ?_
  have hJ : cJ n S (pFund S a1 a2 a3).2.2 := cI_fund hn5 hI a1 a2 a3
  have hwf2 : wf (pFund S a1 a2 a3).2.2 := hJ.1.1.1.1
  have hrm := lc_room hn5 hI hJ
  refine g_xcallSH (As := [.ref (ad 0), .int (iI a1), .int (iI a2), .int (iI a3), .ref o]) (rest := []) K (c_L_fund a1 a2 a3 hwf hr1 hr2 hr3 ho (legJ_W hI.1.2.1) he (lwG_n (by decide) (by decide)) (lwG_n (by decide) (by decide)) (lwG_n (by decide) (by decide)) hP0 hE0 hst lwG_o) (vx_cwSW 5 hts (gd_L gL_L_fund) rfl rfl rfl (by decide +kernel) ⟨Nat.le_of_ble_eq_true rfl, Nat.le_of_ble_eq_true rfl⟩) hK hW rfl hl.1 rfl (Nat.le_of_ble_eq_true rfl) dL_law_184 hrm.1 (fun v_ f_ H locs hp hW => ?_)
  obtain ⟨hpv, ad2, bk2, I2, c2, q2, v2, had0, hPn, hEn, hval, hpe⟩ := hp
  rw [hpe, lwG_up] at hW
  subst hpv
  refine w_cs hrm.2.1 hrm.2.2.1 ?_
  refine lv_istore (lv' := [(5, .int (iI (pFund S a1 a2 a3).1)), (0, .ref b), (1, .ref (ad 0)), (2, .ref (ix 100)), (3, .ref o), (4, .int (iI (11 * (n : Int))))]) hx hb dL_law_187 hl (by decide) rfl (fun ls hl => ?_)
  have hW := toM hwf2 hW
  refine lv_aload_n hx hb dL_law_189 rfl (lv_at hl 3 rfl) ?_
  refine lw_arg (j := 1) (k := 4) (iz := 11 * (n : Int)) hx hb hX hbl hB hW (lv_at hl 1 rfl) (lv_at hl 5 rfl) (by omega) (by decide) (by omega) hL dL_law_190 dL_law_191 (Or.inl ⟨dL_law_193, rfl⟩) dL_law_194 dL_law_195 ha1 ?_
  refine lw_arg (j := 2) (k := 4) (iz := 11 * (n : Int)) hx hb hX hbl hB hW (lv_at hl 1 rfl) (lv_at hl 5 rfl) (by omega) (by decide) (by omega) hL dL_law_196 dL_law_197 (Or.inl ⟨dL_law_199, rfl⟩) dL_law_200 dL_law_201 ha2 ?_
  refine lw_arg (j := 3) (k := 4) (iz := 11 * (n : Int)) hx hb hX hbl hB hW (lv_at hl 1 rfl) (lv_at hl 5 rfl) (by omega) (by decide) (by omega) hL dL_law_202 dL_law_203 (Or.inl ⟨dL_law_205, rfl⟩) dL_law_206 dL_law_207 ha3 ?_
  refine g_callV (i := 0) (As := [.int (iI a1), .int (iI a2), .int (iI a3)]) (rest := []) K (c_M_fund a1 a2 a3 hr1 hr2 hr3 ho (by omega)) (cwV 3 hts (gd_L gL_X12_fund) rfl rfl rfl (by decide +kernel) ⟨Nat.le_of_ble_eq_true rfl, Nat.le_of_ble_eq_true rfl⟩) hK hW (mW_0 _ _ _ _ _) rfl rfl hl.1 rfl (Nat.le_of_ble_eq_true rfl) dL_law_208 hrm.2.2.2 (fun v_ f_ H locs hp hW => ?_)
  obtain ⟨hpv, J2, aM2, qM2, hpe⟩ := hp
  rw [hpe] at hW
  subst hpv
  refine lv_lstore (lv' := [(6, .long (pFund S a1 a2 a3).2.1), (5, .int (iI (pFund S a1 a2 a3).1)), (0, .ref b), (1, .ref (ad 0)), (2, .ref (ix 100)), (3, .ref o), (4, .int (iI (11 * (n : Int))))]) hx hb dL_law_211 hl (by decide) rfl (fun ls hl => ?_)
  refine lv_aload_n hx hb dL_law_213 rfl (lv_at hl 4 rfl) ?_
  refine g_callV (i := 0) (As := []) (rest := []) K c_M_thrown (cwV 0 hts (gd_L gL_X12_thrown) rfl rfl rfl (by decide +kernel) ⟨Nat.le_of_ble_eq_true rfl, Nat.le_of_ble_eq_true rfl⟩) hK hW (mW_0 _ _ _ _ _) rfl rfl hl.1 rfl (Nat.le_of_ble_eq_true rfl) dL_law_214 hrm.2.2.2 (fun v_ f_ H locs hp hW => ?_)
  obtain ⟨hpv, hpe⟩ := hp
  rw [hpe] at hW
  subst hpv
  refine lv_iload hx hb dL_law_217 (lv_at hl 1 rfl) ?_
  refine lv_icmp_eq (tgt := 224) hx hb dL_law_219 (by decide) (fun _ => ?_) (fun h => absurd rfl h)
  refine lv_iload hx hb dL_law_224 (lv_at hl 1 rfl) ?_
  refine lv_if_ne (tgt := 240) hx hb dL_law_226 (by decide) (fun _ => ?_) (fun h => ?_)
  · skip
    refine lv_goto (tgt := 1966) hx hb dL_law_240 (by decide) ?_
    exact kk (pFund S a1 a2 a3).2.2 _ _ _ hJ ⟨ad2, bk2, I2, c2, q2, J2, aM2, qM2, (pFund S a1 a2 a3).1, v2, had0, hPn, hEn, toX hwf2 hW, lv_sub hl [2, 3, 4, 5, 6] rfl⟩
  · have hc : (pFund S a1 a2 a3).1 = 0 := iI_z (sGo_r _ _ _) h
    refine lv_aload_n hx hb dL_law_229 rfl (lv_at hl 5 rfl) ?_
    refine xi_iconst hx hb dL_law_230 ?_
    refine g_lald hx hb hK hW 300000 (n := 1) (g := v2) rfl (j := iI 0) (iI_in (by decide) (by decide) (by decide)) dL_law_231 ?_
    rw [nat_0, hval hc]
    refine lv_lload hx hb dL_law_232 (lv_at hl 0 rfl) ?_
    refine xi_lcmp_eq (tgt := 240) hx hb dL_law_234 dL_law_235 (by decide) (fun _ => ?_) (fun h => absurd rfl h)
    refine lv_goto (tgt := 1966) hx hb dL_law_240 (by decide) ?_
    exact kk (pFund S a1 a2 a3).2.2 _ _ _ hJ ⟨ad2, bk2, I2, c2, q2, J2, aM2, qM2, (pFund S a1 a2 a3).1, v2, had0, hPn, hEn, toX hwf2 hW, lv_sub hl [2, 3, 4, 5, 6] rfl⟩
set_option maxHeartbeats 4000000 in
set_option maxRecDepth 100000 in
theorem lc_line {p : Program} {l : Launch} {e : Env} {s : State} {m : MethodId} {below : List Frame} {meth : Method} {c : Code} {H : Heap} {locs : List Loc} {ls : Array Slot} {D : va_G} {cy : Nat → ClassId} {B0 b L : Nat} {xs : Nat → Int32} {ix : Nat → Nat} {o x0 : Nat} {Q : State → Prop} {n : Nat} {S : ST} (C0 : lwC p l s m c D cy B0 b L xs) (hn : 11 * (n : Int) + 11 ≤ L) (hI : cI n S) (hw : lwI D cy B0 s ix o b x0 (11 * n) S H locs ls) (kk : lcK p l e s m below meth c D cy B0 b ix o x0 Q n S) : W p l e room_1 s m #[Value.ref b] below meth c H locs (lcC n S) (lcS n S) Q (F0 m 243 ls []) := by
  obtain ⟨K, hK, hB, hX, hbl, hL, hst⟩ := C0
  obtain ⟨hx, hb, hml, hown, hts⟩ := id K
  obtain ⟨ad, bk, I, cX, qX, J, aM, qM, tM, v0, rfl, hP0, hE0, hW, hl⟩ := hw
  have hn5 : n < 512 := by omega
  have ho := hI.1.1
  have hwf := ho.1
  have he : S.1 31 0 + cNF S < 19900 := by have := hI.2.2.2.1; omega
  have h26 : S.1 26 0 < 100000 := by have := hI.2.2.2.2.1; omega
  have hlg := inv_lg4 hI.1.2.1 hI.1.2.2.1 hI.2.1
  have hs8 : S.1 8 0 < 60 → S.1 18 (S.1 8 0) ≠ 4 := fun h => by rw [(hI.1.2.2.2.2.2.2.2.2.2.1 _ (Int.le_refl _) h).1]; decide
  obtain ⟨a1, ha1⟩ : ∃ z, (xs (11 * (n : Int) + 1).toNat).toInt = z := ⟨_, rfl⟩
  have hr1 : rI a1 := ha1 ▸ rI_32 _
  obtain ⟨a2, ha2⟩ : ∃ z, (xs (11 * (n : Int) + 2).toNat).toInt = z := ⟨_, rfl⟩
  have hr2 : rI a2 := ha2 ▸ rI_32 _
  obtain ⟨a3, ha3⟩ : ∃ z, (xs (11 * (n : Int) + 3).toNat).toInt = z := ⟨_, rfl⟩
  have hr3 : rI a3 := ha3 ▸ rI_32 _
  refine lv_aload_n hx hb dL_law_243 rfl (lv_at hl 1 rfl) ?_
  refine lw_arg (j := 1) (k := 4) (iz := 11 * (n : Int)) hx hb hX hbl hB hW (lv_at hl 0 rfl) (lv_at hl 4 rfl) (by omega) (by decide) (by omega) hL dL_law_244 dL_law_245 (Or.inl ⟨dL_law_247, rfl⟩) dL_law_248 dL_law_249 ha1 ?_
  refine lw_arg (j := 2) (k := 4) (iz := 11 * (n : Int)) hx hb hX hbl hB hW (lv_at hl 0 rfl) (lv_at hl 4 rfl) (by omega) (by decide) (by omega) hL dL_law_250 dL_law_251 (Or.inl ⟨dL_law_253, rfl⟩) dL_law_254 dL_law_255 ha2 ?_
  refine lw_arg (j := 3) (k := 4) (iz := 11 * (n : Int)) hx hb hX hbl hB hW (lv_at hl 0 rfl) (lv_at hl 4 rfl) (by omega) (by decide) (by omega) hL dL_law_256 dL_law_257 (Or.inl ⟨dL_law_259, rfl⟩) dL_law_260 dL_law_261 ha3 ?_
  refine lv_aload_n hx hb dL_law_262 rfl (lv_at hl 3 rfl) ?_
  have hJ : cJ n S (pLine S a1 a2 a3).2.2 := cI_line hn5 hI a1 a2 a3
  have hwf2 : wf (pLine S a1 a2 a3).2.2 := hJ.1.1.1.1
  have hrm := lc_room hn5 hI hJ
  refine g_xcallSH (As := [.ref (ad 0), .int (iI a1), .int (iI a2), .int (iI a3), .ref o]) (rest := []) K (c_L_line a1 a2 a3 hwf hr1 hr2 hr3 ho (legJ_W hI.1.2.1) he (lwG_n (by decide) (by decide)) (lwG_n (by decide) (by decide)) (lwG_n (by decide) (by decide)) hP0 hE0 hst lwG_o) (vx_cwSW 5 hts (gd_L gL_L_line) rfl rfl rfl (by decide +kernel) ⟨Nat.le_of_ble_eq_true rfl, Nat.le_of_ble_eq_true rfl⟩) hK hW rfl hl.1 rfl (Nat.le_of_ble_eq_true rfl) dL_law_263 hrm.1 (fun v_ f_ H locs hp hW => ?_)
  obtain ⟨hpv, ad2, bk2, I2, c2, q2, v2, had0, hPn, hEn, hval, hpe⟩ := hp
  rw [hpe, lwG_up] at hW
  subst hpv
  refine w_cs hrm.2.1 hrm.2.2.1 ?_
  refine lv_istore (lv' := [(5, .int (iI (pLine S a1 a2 a3).1)), (0, .ref b), (1, .ref (ad 0)), (2, .ref (ix 100)), (3, .ref o), (4, .int (iI (11 * (n : Int))))]) hx hb dL_law_266 hl (by decide) rfl (fun ls hl => ?_)
  have hW := toM hwf2 hW
  refine lv_aload_n hx hb dL_law_268 rfl (lv_at hl 3 rfl) ?_
  refine lw_arg (j := 1) (k := 4) (iz := 11 * (n : Int)) hx hb hX hbl hB hW (lv_at hl 1 rfl) (lv_at hl 5 rfl) (by omega) (by decide) (by omega) hL dL_law_269 dL_law_270 (Or.inl ⟨dL_law_272, rfl⟩) dL_law_273 dL_law_274 ha1 ?_
  refine lw_arg (j := 2) (k := 4) (iz := 11 * (n : Int)) hx hb hX hbl hB hW (lv_at hl 1 rfl) (lv_at hl 5 rfl) (by omega) (by decide) (by omega) hL dL_law_275 dL_law_276 (Or.inl ⟨dL_law_278, rfl⟩) dL_law_279 dL_law_280 ha2 ?_
  refine lw_arg (j := 3) (k := 4) (iz := 11 * (n : Int)) hx hb hX hbl hB hW (lv_at hl 1 rfl) (lv_at hl 5 rfl) (by omega) (by decide) (by omega) hL dL_law_281 dL_law_282 (Or.inl ⟨dL_law_284, rfl⟩) dL_law_285 dL_law_286 ha3 ?_
  refine g_callV (i := 0) (As := [.int (iI a1), .int (iI a2), .int (iI a3)]) (rest := []) K (c_M_line a1 a2 a3 hr1 hr2 hr3 ho) (cwV 3 hts (gd_L gL_X12_line) rfl rfl rfl (by decide +kernel) ⟨Nat.le_of_ble_eq_true rfl, Nat.le_of_ble_eq_true rfl⟩) hK hW (mW_0 _ _ _ _ _) rfl rfl hl.1 rfl (Nat.le_of_ble_eq_true rfl) dL_law_287 hrm.2.2.2 (fun v_ f_ H locs hp hW => ?_)
  obtain ⟨hpv, J2, aM2, qM2, hpe⟩ := hp
  rw [hpe] at hW
  subst hpv
  refine lv_istore (lv' := [(6, .int (iI (pLine S a1 a2 a3).2.1)), (5, .int (iI (pLine S a1 a2 a3).1)), (0, .ref b), (1, .ref (ad 0)), (2, .ref (ix 100)), (3, .ref o), (4, .int (iI (11 * (n : Int))))]) hx hb dL_law_290 hl (by decide) rfl (fun ls hl => ?_)
  refine lv_aload_n hx hb dL_law_292 rfl (lv_at hl 4 rfl) ?_
  refine g_callV (i := 0) (As := []) (rest := []) K c_M_thrown (cwV 0 hts (gd_L gL_X12_thrown) rfl rfl rfl (by decide +kernel) ⟨Nat.le_of_ble_eq_true rfl, Nat.le_of_ble_eq_true rfl⟩) hK hW (mW_0 _ _ _ _ _) rfl rfl hl.1 rfl (Nat.le_of_ble_eq_true rfl) dL_law_293 hrm.2.2.2 (fun v_ f_ H locs hp hW => ?_)
  obtain ⟨hpv, hpe⟩ := hp
  rw [hpe] at hW
  subst hpv
  refine lv_iload hx hb dL_law_296 (lv_at hl 1 rfl) ?_
  refine lv_icmp_eq (tgt := 303) hx hb dL_law_298 (by decide) (fun _ => ?_) (fun h => absurd rfl h)
  refine lv_iload hx hb dL_law_303 (lv_at hl 1 rfl) ?_
  refine lv_if_ne (tgt := 320) hx hb dL_law_305 (by decide) (fun _ => ?_) (fun h => ?_)
  · skip
    refine lv_goto (tgt := 1966) hx hb dL_law_320 (by decide) ?_
    exact kk (pLine S a1 a2 a3).2.2 _ _ _ hJ ⟨ad2, bk2, I2, c2, q2, J2, aM2, qM2, (pLine S a1 a2 a3).1, v2, had0, hPn, hEn, toX hwf2 hW, lv_sub hl [2, 3, 4, 5, 6] rfl⟩
  · have hc : (pLine S a1 a2 a3).1 = 0 := iI_z (sGo_r _ _ _) h
    refine lv_aload_n hx hb dL_law_308 rfl (lv_at hl 5 rfl) ?_
    refine xi_iconst hx hb dL_law_309 ?_
    refine g_lald hx hb hK hW 300000 (n := 1) (g := v2) rfl (j := iI 0) (iI_in (by decide) (by decide) (by decide)) dL_law_310 ?_
    rw [nat_0, hval hc]
    refine lv_iload hx hb dL_law_311 (lv_at hl 0 rfl) ?_
    refine lv_i2l hx hb dL_law_313 rfl ?_
    refine xi_lcmp_eq (tgt := 320) hx hb dL_law_314 dL_law_315 (by decide) (fun _ => ?_) (fun h => absurd rfl h)
    refine lv_goto (tgt := 1966) hx hb dL_law_320 (by decide) ?_
    exact kk (pLine S a1 a2 a3).2.2 _ _ _ hJ ⟨ad2, bk2, I2, c2, q2, J2, aM2, qM2, (pLine S a1 a2 a3).1, v2, had0, hPn, hEn, toX hwf2 hW, lv_sub hl [2, 3, 4, 5, 6] rfl⟩
set_option maxHeartbeats 4000000 in
set_option maxRecDepth 100000 in
theorem lc_limit {p : Program} {l : Launch} {e : Env} {s : State} {m : MethodId} {below : List Frame} {meth : Method} {c : Code} {H : Heap} {locs : List Loc} {ls : Array Slot} {D : va_G} {cy : Nat → ClassId} {B0 b L : Nat} {xs : Nat → Int32} {ix : Nat → Nat} {o x0 : Nat} {Q : State → Prop} {n : Nat} {S : ST} (C0 : lwC p l s m c D cy B0 b L xs) (hn : 11 * (n : Int) + 11 ≤ L) (hI : cI n S) (hw : lwI D cy B0 s ix o b x0 (11 * n) S H locs ls) (kk : lcK p l e s m below meth c D cy B0 b ix o x0 Q n S) : W p l e room_1 s m #[Value.ref b] below meth c H locs (lcC n S) (lcS n S) Q (F0 m 323 ls []) := by
  obtain ⟨K, hK, hB, hX, hbl, hL, hst⟩ := C0
  obtain ⟨hx, hb, hml, hown, hts⟩ := id K
  obtain ⟨ad, bk, I, cX, qX, J, aM, qM, tM, v0, rfl, hP0, hE0, hW, hl⟩ := hw
  have hn5 : n < 512 := by omega
  have ho := hI.1.1
  have hwf := ho.1
  have he : S.1 31 0 + cNF S < 19900 := by have := hI.2.2.2.1; omega
  have h26 : S.1 26 0 < 100000 := by have := hI.2.2.2.2.1; omega
  have hlg := inv_lg4 hI.1.2.1 hI.1.2.2.1 hI.2.1
  have hs8 : S.1 8 0 < 60 → S.1 18 (S.1 8 0) ≠ 4 := fun h => by rw [(hI.1.2.2.2.2.2.2.2.2.2.1 _ (Int.le_refl _) h).1]; decide
  obtain ⟨a1, ha1⟩ : ∃ z, (xs (11 * (n : Int) + 1).toNat).toInt = z := ⟨_, rfl⟩
  have hr1 : rI a1 := ha1 ▸ rI_32 _
  obtain ⟨a2, ha2⟩ : ∃ z, (xs (11 * (n : Int) + 2).toNat).toInt = z := ⟨_, rfl⟩
  have hr2 : rI a2 := ha2 ▸ rI_32 _
  obtain ⟨a3, ha3⟩ : ∃ z, (xs (11 * (n : Int) + 3).toNat).toInt = z := ⟨_, rfl⟩
  have hr3 : rI a3 := ha3 ▸ rI_32 _
  obtain ⟨a4, ha4⟩ : ∃ z, (xs (11 * (n : Int) + 4).toNat).toInt = z := ⟨_, rfl⟩
  have hr4 : rI a4 := ha4 ▸ rI_32 _
  refine lv_aload_n hx hb dL_law_323 rfl (lv_at hl 1 rfl) ?_
  refine lw_arg (j := 1) (k := 4) (iz := 11 * (n : Int)) hx hb hX hbl hB hW (lv_at hl 0 rfl) (lv_at hl 4 rfl) (by omega) (by decide) (by omega) hL dL_law_324 dL_law_325 (Or.inl ⟨dL_law_327, rfl⟩) dL_law_328 dL_law_329 ha1 ?_
  refine lw_arg (j := 2) (k := 4) (iz := 11 * (n : Int)) hx hb hX hbl hB hW (lv_at hl 0 rfl) (lv_at hl 4 rfl) (by omega) (by decide) (by omega) hL dL_law_330 dL_law_331 (Or.inl ⟨dL_law_333, rfl⟩) dL_law_334 dL_law_335 ha2 ?_
  refine lw_arg (j := 3) (k := 4) (iz := 11 * (n : Int)) hx hb hX hbl hB hW (lv_at hl 0 rfl) (lv_at hl 4 rfl) (by omega) (by decide) (by omega) hL dL_law_336 dL_law_337 (Or.inl ⟨dL_law_339, rfl⟩) dL_law_340 dL_law_341 ha3 ?_
  refine lw_arg (j := 4) (k := 4) (iz := 11 * (n : Int)) hx hb hX hbl hB hW (lv_at hl 0 rfl) (lv_at hl 4 rfl) (by omega) (by decide) (by omega) hL dL_law_342 dL_law_343 (Or.inl ⟨dL_law_345, rfl⟩) dL_law_346 dL_law_347 ha4 ?_
  refine lv_aload_n hx hb dL_law_348 rfl (lv_at hl 3 rfl) ?_
  have hJ : cJ n S (pLimit S a1 a2 a3 a4).2.2 := cI_limit hn5 hI a1 a2 a3 a4
  have hwf2 : wf (pLimit S a1 a2 a3 a4).2.2 := hJ.1.1.1.1
  have hrm := lc_room hn5 hI hJ
  refine g_xcallSH (As := [.ref (ad 0), .int (iI a1), .int (iI a2), .int (iI a3), .int (iI a4), .ref o]) (rest := []) K (c_L_limit a1 a2 a3 a4 hwf hr1 hr2 hr3 hr4 ho (legJ_W hI.1.2.1) he (lwG_n (by decide) (by decide)) (lwG_n (by decide) (by decide)) (lwG_n (by decide) (by decide)) hP0 hE0 hst lwG_o) (vx_cwSW 6 hts (gd_L gL_L_limit) rfl rfl rfl (by decide +kernel) ⟨Nat.le_of_ble_eq_true rfl, Nat.le_of_ble_eq_true rfl⟩) hK hW rfl hl.1 rfl (Nat.le_of_ble_eq_true rfl) dL_law_349 hrm.1 (fun v_ f_ H locs hp hW => ?_)
  obtain ⟨hpv, ad2, bk2, I2, c2, q2, v2, had0, hPn, hEn, hval, hpe⟩ := hp
  rw [hpe, lwG_up] at hW
  subst hpv
  refine w_cs hrm.2.1 hrm.2.2.1 ?_
  refine lv_istore (lv' := [(5, .int (iI (pLimit S a1 a2 a3 a4).1)), (0, .ref b), (1, .ref (ad 0)), (2, .ref (ix 100)), (3, .ref o), (4, .int (iI (11 * (n : Int))))]) hx hb dL_law_352 hl (by decide) rfl (fun ls hl => ?_)
  have hW := toM hwf2 hW
  refine lv_aload_n hx hb dL_law_354 rfl (lv_at hl 3 rfl) ?_
  refine lw_arg (j := 1) (k := 4) (iz := 11 * (n : Int)) hx hb hX hbl hB hW (lv_at hl 1 rfl) (lv_at hl 5 rfl) (by omega) (by decide) (by omega) hL dL_law_355 dL_law_356 (Or.inl ⟨dL_law_358, rfl⟩) dL_law_359 dL_law_360 ha1 ?_
  refine lw_arg (j := 2) (k := 4) (iz := 11 * (n : Int)) hx hb hX hbl hB hW (lv_at hl 1 rfl) (lv_at hl 5 rfl) (by omega) (by decide) (by omega) hL dL_law_361 dL_law_362 (Or.inl ⟨dL_law_364, rfl⟩) dL_law_365 dL_law_366 ha2 ?_
  refine lw_arg (j := 3) (k := 4) (iz := 11 * (n : Int)) hx hb hX hbl hB hW (lv_at hl 1 rfl) (lv_at hl 5 rfl) (by omega) (by decide) (by omega) hL dL_law_367 dL_law_368 (Or.inl ⟨dL_law_370, rfl⟩) dL_law_371 dL_law_372 ha3 ?_
  refine lw_arg (j := 4) (k := 4) (iz := 11 * (n : Int)) hx hb hX hbl hB hW (lv_at hl 1 rfl) (lv_at hl 5 rfl) (by omega) (by decide) (by omega) hL dL_law_373 dL_law_374 (Or.inl ⟨dL_law_376, rfl⟩) dL_law_377 dL_law_378 ha4 ?_
  refine g_callV (i := 0) (As := [.int (iI a1), .int (iI a2), .int (iI a3), .int (iI a4)]) (rest := []) K (c_M_limit a1 a2 a3 a4 hr1 hr2 hr3 hr4 ho) (cwV 4 hts (gd_L gL_X12_limit) rfl rfl rfl (by decide +kernel) ⟨Nat.le_of_ble_eq_true rfl, Nat.le_of_ble_eq_true rfl⟩) hK hW (mW_0 _ _ _ _ _) rfl rfl hl.1 rfl (Nat.le_of_ble_eq_true rfl) dL_law_379 hrm.2.2.2 (fun v_ f_ H locs hp hW => ?_)
  obtain ⟨hpv, J2, aM2, qM2, hpe⟩ := hp
  rw [hpe] at hW
  subst hpv
  refine lv_istore (lv' := [(6, .int (iI (pLimit S a1 a2 a3 a4).2.1)), (5, .int (iI (pLimit S a1 a2 a3 a4).1)), (0, .ref b), (1, .ref (ad 0)), (2, .ref (ix 100)), (3, .ref o), (4, .int (iI (11 * (n : Int))))]) hx hb dL_law_382 hl (by decide) rfl (fun ls hl => ?_)
  refine lv_aload_n hx hb dL_law_384 rfl (lv_at hl 4 rfl) ?_
  refine g_callV (i := 0) (As := []) (rest := []) K c_M_thrown (cwV 0 hts (gd_L gL_X12_thrown) rfl rfl rfl (by decide +kernel) ⟨Nat.le_of_ble_eq_true rfl, Nat.le_of_ble_eq_true rfl⟩) hK hW (mW_0 _ _ _ _ _) rfl rfl hl.1 rfl (Nat.le_of_ble_eq_true rfl) dL_law_385 hrm.2.2.2 (fun v_ f_ H locs hp hW => ?_)
  obtain ⟨hpv, hpe⟩ := hp
  rw [hpe] at hW
  subst hpv
  refine lv_iload hx hb dL_law_388 (lv_at hl 1 rfl) ?_
  refine lv_icmp_eq (tgt := 395) hx hb dL_law_390 (by decide) (fun _ => ?_) (fun h => absurd rfl h)
  refine lv_iload hx hb dL_law_395 (lv_at hl 1 rfl) ?_
  refine lv_if_ne (tgt := 412) hx hb dL_law_397 (by decide) (fun _ => ?_) (fun h => ?_)
  · skip
    refine lv_goto (tgt := 1966) hx hb dL_law_412 (by decide) ?_
    exact kk (pLimit S a1 a2 a3 a4).2.2 _ _ _ hJ ⟨ad2, bk2, I2, c2, q2, J2, aM2, qM2, (pLimit S a1 a2 a3 a4).1, v2, had0, hPn, hEn, toX hwf2 hW, lv_sub hl [2, 3, 4, 5, 6] rfl⟩
  · have hc : (pLimit S a1 a2 a3 a4).1 = 0 := iI_z (sGo_r _ _ _) h
    refine lv_aload_n hx hb dL_law_400 rfl (lv_at hl 5 rfl) ?_
    refine xi_iconst hx hb dL_law_401 ?_
    refine g_lald hx hb hK hW 300000 (n := 1) (g := v2) rfl (j := iI 0) (iI_in (by decide) (by decide) (by decide)) dL_law_402 ?_
    rw [nat_0, hval hc]
    refine lv_iload hx hb dL_law_403 (lv_at hl 0 rfl) ?_
    refine lv_i2l hx hb dL_law_405 rfl ?_
    refine xi_lcmp_eq (tgt := 412) hx hb dL_law_406 dL_law_407 (by decide) (fun _ => ?_) (fun h => absurd rfl h)
    refine lv_goto (tgt := 1966) hx hb dL_law_412 (by decide) ?_
    exact kk (pLimit S a1 a2 a3 a4).2.2 _ _ _ hJ ⟨ad2, bk2, I2, c2, q2, J2, aM2, qM2, (pLimit S a1 a2 a3 a4).1, v2, had0, hPn, hEn, toX hwf2 hW, lv_sub hl [2, 3, 4, 5, 6] rfl⟩
set_option maxHeartbeats 4000000 in
set_option maxRecDepth 100000 in
theorem lc_out {p : Program} {l : Launch} {e : Env} {s : State} {m : MethodId} {below : List Frame} {meth : Method} {c : Code} {H : Heap} {locs : List Loc} {ls : Array Slot} {D : va_G} {cy : Nat → ClassId} {B0 b L : Nat} {xs : Nat → Int32} {ix : Nat → Nat} {o x0 : Nat} {Q : State → Prop} {n : Nat} {S : ST} (C0 : lwC p l s m c D cy B0 b L xs) (hn : 11 * (n : Int) + 11 ≤ L) (hI : cI n S) (hw : lwI D cy B0 s ix o b x0 (11 * n) S H locs ls) (kk : lcK p l e s m below meth c D cy B0 b ix o x0 Q n S) : W p l e room_1 s m #[Value.ref b] below meth c H locs (lcC n S) (lcS n S) Q (F0 m 415 ls []) := by
  obtain ⟨K, hK, hB, hX, hbl, hL, hst⟩ := C0
  obtain ⟨hx, hb, hml, hown, hts⟩ := id K
  obtain ⟨ad, bk, I, cX, qX, J, aM, qM, tM, v0, rfl, hP0, hE0, hW, hl⟩ := hw
  have hn5 : n < 512 := by omega
  have ho := hI.1.1
  have hwf := ho.1
  have he : S.1 31 0 + cNF S < 19900 := by have := hI.2.2.2.1; omega
  have h26 : S.1 26 0 < 100000 := by have := hI.2.2.2.2.1; omega
  have hlg := inv_lg4 hI.1.2.1 hI.1.2.2.1 hI.2.1
  have hs8 : S.1 8 0 < 60 → S.1 18 (S.1 8 0) ≠ 4 := fun h => by rw [(hI.1.2.2.2.2.2.2.2.2.2.1 _ (Int.le_refl _) h).1]; decide
  obtain ⟨a1, ha1⟩ : ∃ z, (xs (11 * (n : Int) + 1).toNat).toInt = z := ⟨_, rfl⟩
  have hr1 : rI a1 := ha1 ▸ rI_32 _
  obtain ⟨a2, ha2⟩ : ∃ z, (xs (11 * (n : Int) + 2).toNat).toInt = z := ⟨_, rfl⟩
  refine lv_aload_n hx hb dL_law_415 rfl (lv_at hl 1 rfl) ?_
  refine lw_arg (j := 1) (k := 4) (iz := 11 * (n : Int)) hx hb hX hbl hB hW (lv_at hl 0 rfl) (lv_at hl 4 rfl) (by omega) (by decide) (by omega) hL dL_law_416 dL_law_417 (Or.inl ⟨dL_law_419, rfl⟩) dL_law_420 dL_law_421 ha1 ?_
  refine lw_argB (j := 2) (k := 4) (iz := 11 * (n : Int)) hx hb hX hbl hB hW (lv_at hl 0 rfl) (lv_at hl 4 rfl) (by omega) (by decide) (by omega) hL dL_law_422 dL_law_423 (Or.inl ⟨dL_law_425, rfl⟩) dL_law_426 dL_law_427 dL_law_428 dL_law_431 dL_law_432 dL_law_435 ha2 ?_
  refine lv_aload_n hx hb dL_law_436 rfl (lv_at hl 3 rfl) ?_
  have hJ : cJ n S (pOut S a1 (bz a2)).2.2 := cI_out hn5 hI a1 (bz a2)
  have hwf2 : wf (pOut S a1 (bz a2)).2.2 := hJ.1.1.1.1
  have hrm := lc_room hn5 hI hJ
  refine g_xcallSH (As := [.ref (ad 0), .int (iI a1), .int (iI (bI (bz a2))), .ref o]) (rest := []) K (c_L_out a1 (bz a2) hwf hr1 ho (legJ_W hI.1.2.1) he (lwG_n (by decide) (by decide)) (lwG_n (by decide) (by decide)) (lwG_n (by decide) (by decide)) hP0 hE0 hst lwG_o) (vx_cwSW 4 hts (gd_L gL_L_out) rfl rfl rfl (by decide +kernel) ⟨Nat.le_of_ble_eq_true rfl, Nat.le_of_ble_eq_true rfl⟩) hK hW rfl hl.1 rfl (Nat.le_of_ble_eq_true rfl) dL_law_437 hrm.1 (fun v_ f_ H locs hp hW => ?_)
  obtain ⟨hpv, ad2, bk2, I2, c2, q2, v2, had0, hPn, hEn, hval, hpe⟩ := hp
  rw [hpe, lwG_up] at hW
  subst hpv
  refine w_cs hrm.2.1 hrm.2.2.1 ?_
  refine lv_istore (lv' := [(5, .int (iI (pOut S a1 (bz a2)).1)), (0, .ref b), (1, .ref (ad 0)), (2, .ref (ix 100)), (3, .ref o), (4, .int (iI (11 * (n : Int))))]) hx hb dL_law_440 hl (by decide) rfl (fun ls hl => ?_)
  have hW := toM hwf2 hW
  refine lv_aload_n hx hb dL_law_442 rfl (lv_at hl 3 rfl) ?_
  refine lw_arg (j := 1) (k := 4) (iz := 11 * (n : Int)) hx hb hX hbl hB hW (lv_at hl 1 rfl) (lv_at hl 5 rfl) (by omega) (by decide) (by omega) hL dL_law_443 dL_law_444 (Or.inl ⟨dL_law_446, rfl⟩) dL_law_447 dL_law_448 ha1 ?_
  refine lw_argB (j := 2) (k := 4) (iz := 11 * (n : Int)) hx hb hX hbl hB hW (lv_at hl 1 rfl) (lv_at hl 5 rfl) (by omega) (by decide) (by omega) hL dL_law_449 dL_law_450 (Or.inl ⟨dL_law_452, rfl⟩) dL_law_453 dL_law_454 dL_law_455 dL_law_458 dL_law_459 dL_law_462 ha2 ?_
  refine g_callV (i := 0) (As := [.int (iI a1), .int (iI (bI (bz a2)))]) (rest := []) K (c_M_out a1 (bz a2) hr1 ho) (cwV 2 hts (gd_L gL_X12_out) rfl rfl rfl (by decide +kernel) ⟨Nat.le_of_ble_eq_true rfl, Nat.le_of_ble_eq_true rfl⟩) hK hW (mW_0 _ _ _ _ _) rfl rfl hl.1 rfl (Nat.le_of_ble_eq_true rfl) dL_law_463 hrm.2.2.2 (fun v_ f_ H locs hp hW => ?_)
  obtain ⟨hpv, J2, aM2, qM2, hpe⟩ := hp
  rw [hpe] at hW
  subst hpv
  refine lv_istore (lv' := [(6, .int (iI (pOut S a1 (bz a2)).2.1)), (5, .int (iI (pOut S a1 (bz a2)).1)), (0, .ref b), (1, .ref (ad 0)), (2, .ref (ix 100)), (3, .ref o), (4, .int (iI (11 * (n : Int))))]) hx hb dL_law_466 hl (by decide) rfl (fun ls hl => ?_)
  refine lv_aload_n hx hb dL_law_468 rfl (lv_at hl 4 rfl) ?_
  refine g_callV (i := 0) (As := []) (rest := []) K c_M_thrown (cwV 0 hts (gd_L gL_X12_thrown) rfl rfl rfl (by decide +kernel) ⟨Nat.le_of_ble_eq_true rfl, Nat.le_of_ble_eq_true rfl⟩) hK hW (mW_0 _ _ _ _ _) rfl rfl hl.1 rfl (Nat.le_of_ble_eq_true rfl) dL_law_469 hrm.2.2.2 (fun v_ f_ H locs hp hW => ?_)
  obtain ⟨hpv, hpe⟩ := hp
  rw [hpe] at hW
  subst hpv
  refine lv_iload hx hb dL_law_472 (lv_at hl 1 rfl) ?_
  refine lv_icmp_eq (tgt := 479) hx hb dL_law_474 (by decide) (fun _ => ?_) (fun h => absurd rfl h)
  refine lv_iload hx hb dL_law_479 (lv_at hl 1 rfl) ?_
  refine lv_if_ne (tgt := 503) hx hb dL_law_481 (by decide) (fun _ => ?_) (fun h => ?_)
  · skip
    refine lv_goto (tgt := 1966) hx hb dL_law_503 (by decide) ?_
    exact kk (pOut S a1 (bz a2)).2.2 _ _ _ hJ ⟨ad2, bk2, I2, c2, q2, J2, aM2, qM2, (pOut S a1 (bz a2)).1, v2, had0, hPn, hEn, toX hwf2 hW, lv_sub hl [2, 3, 4, 5, 6] rfl⟩
  · have hc : (pOut S a1 (bz a2)).1 = 0 := iI_z (sGo_r _ _ _) h
    refine lv_aload_n hx hb dL_law_484 rfl (lv_at hl 5 rfl) ?_
    refine xi_iconst hx hb dL_law_485 ?_
    refine g_lald hx hb hK hW 300000 (n := 1) (g := v2) rfl (j := iI 0) (iI_in (by decide) (by decide) (by decide)) dL_law_486 ?_
    rw [nat_0, hval hc]
    refine lv_iload hx hb dL_law_487 (lv_at hl 0 rfl) ?_
    refine lv_if_eq (tgt := 496) hx hb dL_law_489 (by decide) (fun h => ?_) (fun h => ?_)
    · rw [if_pos h]
      refine lv_lconst (v := 0) hx hb dL_law_496 (by decide) ?_
      refine xi_lcmp_eq (tgt := 503) hx hb dL_law_497 dL_law_498 (by decide) (fun _ => ?_) (fun h => absurd rfl h)
      refine lv_goto (tgt := 1966) hx hb dL_law_503 (by decide) ?_
      exact kk (pOut S a1 (bz a2)).2.2 _ _ _ hJ ⟨ad2, bk2, I2, c2, q2, J2, aM2, qM2, (pOut S a1 (bz a2)).1, v2, had0, hPn, hEn, toX hwf2 hW, lv_sub hl [2, 3, 4, 5, 6] rfl⟩
    · rw [if_neg h]
      refine lv_lconst (v := 1) hx hb dL_law_492 (by decide) ?_
      refine lv_goto (tgt := 497) hx hb dL_law_493 (by decide) ?_
      refine xi_lcmp_eq (tgt := 503) hx hb dL_law_497 dL_law_498 (by decide) (fun _ => ?_) (fun h => absurd rfl h)
      refine lv_goto (tgt := 1966) hx hb dL_law_503 (by decide) ?_
      exact kk (pOut S a1 (bz a2)).2.2 _ _ _ hJ ⟨ad2, bk2, I2, c2, q2, J2, aM2, qM2, (pOut S a1 (bz a2)).1, v2, had0, hPn, hEn, toX hwf2 hW, lv_sub hl [2, 3, 4, 5, 6] rfl⟩
set_option maxHeartbeats 4000000 in
set_option maxRecDepth 100000 in
theorem lc_holiday {p : Program} {l : Launch} {e : Env} {s : State} {m : MethodId} {below : List Frame} {meth : Method} {c : Code} {H : Heap} {locs : List Loc} {ls : Array Slot} {D : va_G} {cy : Nat → ClassId} {B0 b L : Nat} {xs : Nat → Int32} {ix : Nat → Nat} {o x0 : Nat} {Q : State → Prop} {n : Nat} {S : ST} (C0 : lwC p l s m c D cy B0 b L xs) (hn : 11 * (n : Int) + 11 ≤ L) (hI : cI n S) (hw : lwI D cy B0 s ix o b x0 (11 * n) S H locs ls) (kk : lcK p l e s m below meth c D cy B0 b ix o x0 Q n S) : W p l e room_1 s m #[Value.ref b] below meth c H locs (lcC n S) (lcS n S) Q (F0 m 506 ls []) := by
  obtain ⟨K, hK, hB, hX, hbl, hL, hst⟩ := C0
  obtain ⟨hx, hb, hml, hown, hts⟩ := id K
  obtain ⟨ad, bk, I, cX, qX, J, aM, qM, tM, v0, rfl, hP0, hE0, hW, hl⟩ := hw
  have hn5 : n < 512 := by omega
  have ho := hI.1.1
  have hwf := ho.1
  have he : S.1 31 0 + cNF S < 19900 := by have := hI.2.2.2.1; omega
  have h26 : S.1 26 0 < 100000 := by have := hI.2.2.2.2.1; omega
  have hlg := inv_lg4 hI.1.2.1 hI.1.2.2.1 hI.2.1
  have hs8 : S.1 8 0 < 60 → S.1 18 (S.1 8 0) ≠ 4 := fun h => by rw [(hI.1.2.2.2.2.2.2.2.2.2.1 _ (Int.le_refl _) h).1]; decide
  obtain ⟨a1, ha1⟩ : ∃ z, (xs (11 * (n : Int) + 1).toNat).toInt = z := ⟨_, rfl⟩
  have hr1 : rI a1 := ha1 ▸ rI_32 _
  obtain ⟨a2, ha2⟩ : ∃ z, (xs (11 * (n : Int) + 2).toNat).toInt = z := ⟨_, rfl⟩
  have hr2 : rI a2 := ha2 ▸ rI_32 _
  obtain ⟨a3, ha3⟩ : ∃ z, (xs (11 * (n : Int) + 3).toNat).toInt = z := ⟨_, rfl⟩
  refine lv_aload_n hx hb dL_law_506 rfl (lv_at hl 1 rfl) ?_
  refine lw_arg (j := 1) (k := 4) (iz := 11 * (n : Int)) hx hb hX hbl hB hW (lv_at hl 0 rfl) (lv_at hl 4 rfl) (by omega) (by decide) (by omega) hL dL_law_507 dL_law_508 (Or.inl ⟨dL_law_510, rfl⟩) dL_law_511 dL_law_512 ha1 ?_
  refine lw_arg (j := 2) (k := 4) (iz := 11 * (n : Int)) hx hb hX hbl hB hW (lv_at hl 0 rfl) (lv_at hl 4 rfl) (by omega) (by decide) (by omega) hL dL_law_513 dL_law_514 (Or.inl ⟨dL_law_516, rfl⟩) dL_law_517 dL_law_518 ha2 ?_
  refine lw_argB (j := 3) (k := 4) (iz := 11 * (n : Int)) hx hb hX hbl hB hW (lv_at hl 0 rfl) (lv_at hl 4 rfl) (by omega) (by decide) (by omega) hL dL_law_519 dL_law_520 (Or.inl ⟨dL_law_522, rfl⟩) dL_law_523 dL_law_524 dL_law_525 dL_law_528 dL_law_529 dL_law_532 ha3 ?_
  refine lv_aload_n hx hb dL_law_533 rfl (lv_at hl 3 rfl) ?_
  have hJ : cJ n S (pHoli S a1 a2 (bz a3)).2.2 := cI_holi hn5 hI a1 a2 (bz a3)
  have hwf2 : wf (pHoli S a1 a2 (bz a3)).2.2 := hJ.1.1.1.1
  have hrm := lc_room hn5 hI hJ
  refine g_xcallSH (As := [.ref (ad 0), .int (iI a1), .int (iI a2), .int (iI (bI (bz a3))), .ref o]) (rest := []) K (c_L_holiday a1 a2 (bz a3) hwf hr1 hr2 ho (legJ_W hI.1.2.1) he (lwG_n (by decide) (by decide)) (lwG_n (by decide) (by decide)) (lwG_n (by decide) (by decide)) hP0 hE0 hst lwG_o) (vx_cwSW 5 hts (gd_L gL_L_holiday) rfl rfl rfl (by decide +kernel) ⟨Nat.le_of_ble_eq_true rfl, Nat.le_of_ble_eq_true rfl⟩) hK hW rfl hl.1 rfl (Nat.le_of_ble_eq_true rfl) dL_law_534 hrm.1 (fun v_ f_ H locs hp hW => ?_)
  obtain ⟨hpv, ad2, bk2, I2, c2, q2, v2, had0, hPn, hEn, hval, hpe⟩ := hp
  rw [hpe, lwG_up] at hW
  subst hpv
  refine w_cs hrm.2.1 hrm.2.2.1 ?_
  refine lv_istore (lv' := [(5, .int (iI (pHoli S a1 a2 (bz a3)).1)), (0, .ref b), (1, .ref (ad 0)), (2, .ref (ix 100)), (3, .ref o), (4, .int (iI (11 * (n : Int))))]) hx hb dL_law_537 hl (by decide) rfl (fun ls hl => ?_)
  have hW := toM hwf2 hW
  refine lv_aload_n hx hb dL_law_539 rfl (lv_at hl 3 rfl) ?_
  refine lw_arg (j := 1) (k := 4) (iz := 11 * (n : Int)) hx hb hX hbl hB hW (lv_at hl 1 rfl) (lv_at hl 5 rfl) (by omega) (by decide) (by omega) hL dL_law_540 dL_law_541 (Or.inl ⟨dL_law_543, rfl⟩) dL_law_544 dL_law_545 ha1 ?_
  refine lw_arg (j := 2) (k := 4) (iz := 11 * (n : Int)) hx hb hX hbl hB hW (lv_at hl 1 rfl) (lv_at hl 5 rfl) (by omega) (by decide) (by omega) hL dL_law_546 dL_law_547 (Or.inl ⟨dL_law_549, rfl⟩) dL_law_550 dL_law_551 ha2 ?_
  refine lw_argB (j := 3) (k := 4) (iz := 11 * (n : Int)) hx hb hX hbl hB hW (lv_at hl 1 rfl) (lv_at hl 5 rfl) (by omega) (by decide) (by omega) hL dL_law_552 dL_law_553 (Or.inl ⟨dL_law_555, rfl⟩) dL_law_556 dL_law_557 dL_law_558 dL_law_561 dL_law_562 dL_law_565 ha3 ?_
  refine g_callV (i := 0) (As := [.int (iI a1), .int (iI a2), .int (iI (bI (bz a3)))]) (rest := []) K (c_M_holiday a1 a2 (bz a3) hr1 hr2 ho) (cwV 3 hts (gd_L gL_X12_holiday) rfl rfl rfl (by decide +kernel) ⟨Nat.le_of_ble_eq_true rfl, Nat.le_of_ble_eq_true rfl⟩) hK hW (mW_0 _ _ _ _ _) rfl rfl hl.1 rfl (Nat.le_of_ble_eq_true rfl) dL_law_566 hrm.2.2.2 (fun v_ f_ H locs hp hW => ?_)
  obtain ⟨hpv, J2, aM2, qM2, hpe⟩ := hp
  rw [hpe] at hW
  subst hpv
  refine lv_istore (lv' := [(6, .int (iI (pHoli S a1 a2 (bz a3)).2.1)), (5, .int (iI (pHoli S a1 a2 (bz a3)).1)), (0, .ref b), (1, .ref (ad 0)), (2, .ref (ix 100)), (3, .ref o), (4, .int (iI (11 * (n : Int))))]) hx hb dL_law_569 hl (by decide) rfl (fun ls hl => ?_)
  refine lv_aload_n hx hb dL_law_571 rfl (lv_at hl 4 rfl) ?_
  refine g_callV (i := 0) (As := []) (rest := []) K c_M_thrown (cwV 0 hts (gd_L gL_X12_thrown) rfl rfl rfl (by decide +kernel) ⟨Nat.le_of_ble_eq_true rfl, Nat.le_of_ble_eq_true rfl⟩) hK hW (mW_0 _ _ _ _ _) rfl rfl hl.1 rfl (Nat.le_of_ble_eq_true rfl) dL_law_572 hrm.2.2.2 (fun v_ f_ H locs hp hW => ?_)
  obtain ⟨hpv, hpe⟩ := hp
  rw [hpe] at hW
  subst hpv
  refine lv_iload hx hb dL_law_575 (lv_at hl 1 rfl) ?_
  refine lv_icmp_eq (tgt := 582) hx hb dL_law_577 (by decide) (fun _ => ?_) (fun h => absurd rfl h)
  refine lv_iload hx hb dL_law_582 (lv_at hl 1 rfl) ?_
  refine lv_if_ne (tgt := 606) hx hb dL_law_584 (by decide) (fun _ => ?_) (fun h => ?_)
  · skip
    refine lv_goto (tgt := 1966) hx hb dL_law_606 (by decide) ?_
    exact kk (pHoli S a1 a2 (bz a3)).2.2 _ _ _ hJ ⟨ad2, bk2, I2, c2, q2, J2, aM2, qM2, (pHoli S a1 a2 (bz a3)).1, v2, had0, hPn, hEn, toX hwf2 hW, lv_sub hl [2, 3, 4, 5, 6] rfl⟩
  · have hc : (pHoli S a1 a2 (bz a3)).1 = 0 := iI_z (sGo_r _ _ _) h
    refine lv_aload_n hx hb dL_law_587 rfl (lv_at hl 5 rfl) ?_
    refine xi_iconst hx hb dL_law_588 ?_
    refine g_lald hx hb hK hW 300000 (n := 1) (g := v2) rfl (j := iI 0) (iI_in (by decide) (by decide) (by decide)) dL_law_589 ?_
    rw [nat_0, hval hc]
    refine lv_iload hx hb dL_law_590 (lv_at hl 0 rfl) ?_
    refine lv_if_eq (tgt := 599) hx hb dL_law_592 (by decide) (fun h => ?_) (fun h => ?_)
    · rw [if_pos h]
      refine lv_lconst (v := 0) hx hb dL_law_599 (by decide) ?_
      refine xi_lcmp_eq (tgt := 606) hx hb dL_law_600 dL_law_601 (by decide) (fun _ => ?_) (fun h => absurd rfl h)
      refine lv_goto (tgt := 1966) hx hb dL_law_606 (by decide) ?_
      exact kk (pHoli S a1 a2 (bz a3)).2.2 _ _ _ hJ ⟨ad2, bk2, I2, c2, q2, J2, aM2, qM2, (pHoli S a1 a2 (bz a3)).1, v2, had0, hPn, hEn, toX hwf2 hW, lv_sub hl [2, 3, 4, 5, 6] rfl⟩
    · rw [if_neg h]
      refine lv_lconst (v := 1) hx hb dL_law_595 (by decide) ?_
      refine lv_goto (tgt := 600) hx hb dL_law_596 (by decide) ?_
      refine xi_lcmp_eq (tgt := 606) hx hb dL_law_600 dL_law_601 (by decide) (fun _ => ?_) (fun h => absurd rfl h)
      refine lv_goto (tgt := 1966) hx hb dL_law_606 (by decide) ?_
      exact kk (pHoli S a1 a2 (bz a3)).2.2 _ _ _ hJ ⟨ad2, bk2, I2, c2, q2, J2, aM2, qM2, (pHoli S a1 a2 (bz a3)).1, v2, had0, hPn, hEn, toX hwf2 hW, lv_sub hl [2, 3, 4, 5, 6] rfl⟩
set_option maxHeartbeats 4000000 in
set_option maxRecDepth 100000 in
theorem lc_list {p : Program} {l : Launch} {e : Env} {s : State} {m : MethodId} {below : List Frame} {meth : Method} {c : Code} {H : Heap} {locs : List Loc} {ls : Array Slot} {D : va_G} {cy : Nat → ClassId} {B0 b L : Nat} {xs : Nat → Int32} {ix : Nat → Nat} {o x0 : Nat} {Q : State → Prop} {n : Nat} {S : ST} (C0 : lwC p l s m c D cy B0 b L xs) (hn : 11 * (n : Int) + 11 ≤ L) (hI : cI n S) (hw : lwI D cy B0 s ix o b x0 (11 * n) S H locs ls) (kk : lcK p l e s m below meth c D cy B0 b ix o x0 Q n S) : W p l e room_1 s m #[Value.ref b] below meth c H locs (lcC n S) (lcS n S) Q (F0 m 609 ls []) := by
  obtain ⟨K, hK, hB, hX, hbl, hL, hst⟩ := C0
  obtain ⟨hx, hb, hml, hown, hts⟩ := id K
  obtain ⟨ad, bk, I, cX, qX, J, aM, qM, tM, v0, rfl, hP0, hE0, hW, hl⟩ := hw
  have hn5 : n < 512 := by omega
  have ho := hI.1.1
  have hwf := ho.1
  have he : S.1 31 0 + cNF S < 19900 := by have := hI.2.2.2.1; omega
  have h26 : S.1 26 0 < 100000 := by have := hI.2.2.2.2.1; omega
  have hlg := inv_lg4 hI.1.2.1 hI.1.2.2.1 hI.2.1
  have hs8 : S.1 8 0 < 60 → S.1 18 (S.1 8 0) ≠ 4 := fun h => by rw [(hI.1.2.2.2.2.2.2.2.2.2.1 _ (Int.le_refl _) h).1]; decide
  obtain ⟨a1, ha1⟩ : ∃ z, (xs (11 * (n : Int) + 1).toNat).toInt = z := ⟨_, rfl⟩
  have hr1 : rI a1 := ha1 ▸ rI_32 _
  obtain ⟨a2, ha2⟩ : ∃ z, (xs (11 * (n : Int) + 2).toNat).toInt = z := ⟨_, rfl⟩
  refine lv_aload_n hx hb dL_law_609 rfl (lv_at hl 1 rfl) ?_
  refine lw_arg (j := 1) (k := 4) (iz := 11 * (n : Int)) hx hb hX hbl hB hW (lv_at hl 0 rfl) (lv_at hl 4 rfl) (by omega) (by decide) (by omega) hL dL_law_610 dL_law_611 (Or.inl ⟨dL_law_613, rfl⟩) dL_law_614 dL_law_615 ha1 ?_
  refine lw_argB (j := 2) (k := 4) (iz := 11 * (n : Int)) hx hb hX hbl hB hW (lv_at hl 0 rfl) (lv_at hl 4 rfl) (by omega) (by decide) (by omega) hL dL_law_616 dL_law_617 (Or.inl ⟨dL_law_619, rfl⟩) dL_law_620 dL_law_621 dL_law_622 dL_law_625 dL_law_626 dL_law_629 ha2 ?_
  refine lv_aload_n hx hb dL_law_630 rfl (lv_at hl 3 rfl) ?_
  have hJ : cJ n S (pList S a1 (bz a2)).2.2 := cI_list hn5 hI a1 (bz a2)
  have hwf2 : wf (pList S a1 (bz a2)).2.2 := hJ.1.1.1.1
  have hrm := lc_room hn5 hI hJ
  refine g_xcallSH (As := [.ref (ad 0), .int (iI a1), .int (iI (bI (bz a2))), .ref o]) (rest := []) K (c_L_list a1 (bz a2) hwf hr1 ho (legJ_W hI.1.2.1) he (lwG_n (by decide) (by decide)) (lwG_n (by decide) (by decide)) (lwG_n (by decide) (by decide)) hP0 hE0 hst lwG_o) (vx_cwSW 4 hts (gd_L gL_L_list) rfl rfl rfl (by decide +kernel) ⟨Nat.le_of_ble_eq_true rfl, Nat.le_of_ble_eq_true rfl⟩) hK hW rfl hl.1 rfl (Nat.le_of_ble_eq_true rfl) dL_law_631 hrm.1 (fun v_ f_ H locs hp hW => ?_)
  obtain ⟨hpv, ad2, bk2, I2, c2, q2, v2, had0, hPn, hEn, hval, hpe⟩ := hp
  rw [hpe, lwG_up] at hW
  subst hpv
  refine w_cs hrm.2.1 hrm.2.2.1 ?_
  refine lv_istore (lv' := [(5, .int (iI (pList S a1 (bz a2)).1)), (0, .ref b), (1, .ref (ad 0)), (2, .ref (ix 100)), (3, .ref o), (4, .int (iI (11 * (n : Int))))]) hx hb dL_law_634 hl (by decide) rfl (fun ls hl => ?_)
  have hW := toM hwf2 hW
  refine lv_aload_n hx hb dL_law_636 rfl (lv_at hl 3 rfl) ?_
  refine lw_arg (j := 1) (k := 4) (iz := 11 * (n : Int)) hx hb hX hbl hB hW (lv_at hl 1 rfl) (lv_at hl 5 rfl) (by omega) (by decide) (by omega) hL dL_law_637 dL_law_638 (Or.inl ⟨dL_law_640, rfl⟩) dL_law_641 dL_law_642 ha1 ?_
  refine lw_argB (j := 2) (k := 4) (iz := 11 * (n : Int)) hx hb hX hbl hB hW (lv_at hl 1 rfl) (lv_at hl 5 rfl) (by omega) (by decide) (by omega) hL dL_law_643 dL_law_644 (Or.inl ⟨dL_law_646, rfl⟩) dL_law_647 dL_law_648 dL_law_649 dL_law_652 dL_law_653 dL_law_656 ha2 ?_
  refine g_callV (i := 0) (As := [.int (iI a1), .int (iI (bI (bz a2)))]) (rest := []) K (c_M_list a1 (bz a2) hr1 ho) (cwV 2 hts (gd_L gL_X12_list) rfl rfl rfl (by decide +kernel) ⟨Nat.le_of_ble_eq_true rfl, Nat.le_of_ble_eq_true rfl⟩) hK hW (mW_0 _ _ _ _ _) rfl rfl hl.1 rfl (Nat.le_of_ble_eq_true rfl) dL_law_657 hrm.2.2.2 (fun v_ f_ H locs hp hW => ?_)
  obtain ⟨hpv, J2, aM2, qM2, hpe⟩ := hp
  rw [hpe] at hW
  subst hpv
  refine lv_istore (lv' := [(6, .int (iI (pList S a1 (bz a2)).2.1)), (5, .int (iI (pList S a1 (bz a2)).1)), (0, .ref b), (1, .ref (ad 0)), (2, .ref (ix 100)), (3, .ref o), (4, .int (iI (11 * (n : Int))))]) hx hb dL_law_660 hl (by decide) rfl (fun ls hl => ?_)
  refine lv_aload_n hx hb dL_law_662 rfl (lv_at hl 4 rfl) ?_
  refine g_callV (i := 0) (As := []) (rest := []) K c_M_thrown (cwV 0 hts (gd_L gL_X12_thrown) rfl rfl rfl (by decide +kernel) ⟨Nat.le_of_ble_eq_true rfl, Nat.le_of_ble_eq_true rfl⟩) hK hW (mW_0 _ _ _ _ _) rfl rfl hl.1 rfl (Nat.le_of_ble_eq_true rfl) dL_law_663 hrm.2.2.2 (fun v_ f_ H locs hp hW => ?_)
  obtain ⟨hpv, hpe⟩ := hp
  rw [hpe] at hW
  subst hpv
  refine lv_iload hx hb dL_law_666 (lv_at hl 1 rfl) ?_
  refine lv_icmp_eq (tgt := 673) hx hb dL_law_668 (by decide) (fun _ => ?_) (fun h => absurd rfl h)
  refine lv_iload hx hb dL_law_673 (lv_at hl 1 rfl) ?_
  refine lv_if_ne (tgt := 690) hx hb dL_law_675 (by decide) (fun _ => ?_) (fun h => ?_)
  · skip
    refine lv_goto (tgt := 1966) hx hb dL_law_690 (by decide) ?_
    exact kk (pList S a1 (bz a2)).2.2 _ _ _ hJ ⟨ad2, bk2, I2, c2, q2, J2, aM2, qM2, (pList S a1 (bz a2)).1, v2, had0, hPn, hEn, toX hwf2 hW, lv_sub hl [2, 3, 4, 5, 6] rfl⟩
  · have hc : (pList S a1 (bz a2)).1 = 0 := iI_z (sGo_r _ _ _) h
    refine lv_aload_n hx hb dL_law_678 rfl (lv_at hl 5 rfl) ?_
    refine xi_iconst hx hb dL_law_679 ?_
    refine g_lald hx hb hK hW 300000 (n := 1) (g := v2) rfl (j := iI 0) (iI_in (by decide) (by decide) (by decide)) dL_law_680 ?_
    rw [nat_0, hval hc]
    refine lv_iload hx hb dL_law_681 (lv_at hl 0 rfl) ?_
    refine lv_i2l hx hb dL_law_683 rfl ?_
    refine xi_lcmp_eq (tgt := 690) hx hb dL_law_684 dL_law_685 (by decide) (fun _ => ?_) (fun h => absurd rfl h)
    refine lv_goto (tgt := 1966) hx hb dL_law_690 (by decide) ?_
    exact kk (pList S a1 (bz a2)).2.2 _ _ _ hJ ⟨ad2, bk2, I2, c2, q2, J2, aM2, qM2, (pList S a1 (bz a2)).1, v2, had0, hPn, hEn, toX hwf2 hW, lv_sub hl [2, 3, 4, 5, 6] rfl⟩
set_option maxHeartbeats 4000000 in
set_option maxRecDepth 100000 in
theorem lc_send {p : Program} {l : Launch} {e : Env} {s : State} {m : MethodId} {below : List Frame} {meth : Method} {c : Code} {H : Heap} {locs : List Loc} {ls : Array Slot} {D : va_G} {cy : Nat → ClassId} {B0 b L : Nat} {xs : Nat → Int32} {ix : Nat → Nat} {o x0 : Nat} {Q : State → Prop} {n : Nat} {S : ST} (C0 : lwC p l s m c D cy B0 b L xs) (hn : 11 * (n : Int) + 11 ≤ L) (hI : cI n S) (hw : lwI D cy B0 s ix o b x0 (11 * n) S H locs ls) (kk : lcK p l e s m below meth c D cy B0 b ix o x0 Q n S) : W p l e room_1 s m #[Value.ref b] below meth c H locs (lcC n S) (lcS n S) Q (F0 m 693 ls []) := by
  obtain ⟨K, hK, hB, hX, hbl, hL, hst⟩ := C0
  obtain ⟨hx, hb, hml, hown, hts⟩ := id K
  obtain ⟨ad, bk, I, cX, qX, J, aM, qM, tM, v0, rfl, hP0, hE0, hW, hl⟩ := hw
  have hn5 : n < 512 := by omega
  have ho := hI.1.1
  have hwf := ho.1
  have he : S.1 31 0 + cNF S < 19900 := by have := hI.2.2.2.1; omega
  have h26 : S.1 26 0 < 100000 := by have := hI.2.2.2.2.1; omega
  have hlg := inv_lg4 hI.1.2.1 hI.1.2.2.1 hI.2.1
  have hs8 : S.1 8 0 < 60 → S.1 18 (S.1 8 0) ≠ 4 := fun h => by rw [(hI.1.2.2.2.2.2.2.2.2.2.1 _ (Int.le_refl _) h).1]; decide
  obtain ⟨a1, ha1⟩ : ∃ z, (xs (11 * (n : Int) + 1).toNat).toInt = z := ⟨_, rfl⟩
  have hr1 : rI a1 := ha1 ▸ rI_32 _
  obtain ⟨a2, ha2⟩ : ∃ z, (xs (11 * (n : Int) + 2).toNat).toInt = z := ⟨_, rfl⟩
  have hr2 : rI a2 := ha2 ▸ rI_32 _
  obtain ⟨a3, ha3⟩ : ∃ z, (xs (11 * (n : Int) + 3).toNat).toInt = z := ⟨_, rfl⟩
  have hr3 : rI a3 := ha3 ▸ rI_32 _
  obtain ⟨a4, ha4⟩ : ∃ z, (xs (11 * (n : Int) + 4).toNat).toInt = z := ⟨_, rfl⟩
  have hr4 : rI a4 := ha4 ▸ rI_32 _
  obtain ⟨a5, ha5⟩ : ∃ z, (xs (11 * (n : Int) + 5).toNat).toInt = z := ⟨_, rfl⟩
  have hr5 : rI a5 := ha5 ▸ rI_32 _
  obtain ⟨a6, ha6⟩ : ∃ z, (xs (11 * (n : Int) + 6).toNat).toInt = z := ⟨_, rfl⟩
  have hr6 : rI a6 := ha6 ▸ rI_32 _
  obtain ⟨a7, ha7⟩ : ∃ z, (xs (11 * (n : Int) + 7).toNat).toInt = z := ⟨_, rfl⟩
  have hr7 : rI a7 := ha7 ▸ rI_32 _
  obtain ⟨a8, ha8⟩ : ∃ z, (xs (11 * (n : Int) + 8).toNat).toInt = z := ⟨_, rfl⟩
  obtain ⟨a9, ha9⟩ : ∃ z, (xs (11 * (n : Int) + 9).toNat).toInt = z := ⟨_, rfl⟩
  have hr9 : rI a9 := ha9 ▸ rI_32 _
  obtain ⟨a10, ha10⟩ : ∃ z, (xs (11 * (n : Int) + 10).toNat).toInt = z := ⟨_, rfl⟩
  refine lv_aload_n hx hb dL_law_693 rfl (lv_at hl 1 rfl) ?_
  refine lw_arg (j := 1) (k := 4) (iz := 11 * (n : Int)) hx hb hX hbl hB hW (lv_at hl 0 rfl) (lv_at hl 4 rfl) (by omega) (by decide) (by omega) hL dL_law_694 dL_law_695 (Or.inl ⟨dL_law_697, rfl⟩) dL_law_698 dL_law_699 ha1 ?_
  refine lw_arg (j := 2) (k := 4) (iz := 11 * (n : Int)) hx hb hX hbl hB hW (lv_at hl 0 rfl) (lv_at hl 4 rfl) (by omega) (by decide) (by omega) hL dL_law_700 dL_law_701 (Or.inl ⟨dL_law_703, rfl⟩) dL_law_704 dL_law_705 ha2 ?_
  refine lw_arg (j := 3) (k := 4) (iz := 11 * (n : Int)) hx hb hX hbl hB hW (lv_at hl 0 rfl) (lv_at hl 4 rfl) (by omega) (by decide) (by omega) hL dL_law_706 dL_law_707 (Or.inl ⟨dL_law_709, rfl⟩) dL_law_710 dL_law_711 ha3 ?_
  refine lw_arg (j := 4) (k := 4) (iz := 11 * (n : Int)) hx hb hX hbl hB hW (lv_at hl 0 rfl) (lv_at hl 4 rfl) (by omega) (by decide) (by omega) hL dL_law_712 dL_law_713 (Or.inl ⟨dL_law_715, rfl⟩) dL_law_716 dL_law_717 ha4 ?_
  refine lw_arg (j := 5) (k := 4) (iz := 11 * (n : Int)) hx hb hX hbl hB hW (lv_at hl 0 rfl) (lv_at hl 4 rfl) (by omega) (by decide) (by omega) hL dL_law_718 dL_law_719 (Or.inl ⟨dL_law_721, rfl⟩) dL_law_722 dL_law_723 ha5 ?_
  refine lw_arg (j := 6) (k := 5) (iz := 11 * (n : Int)) hx hb hX hbl hB hW (lv_at hl 0 rfl) (lv_at hl 4 rfl) (by omega) (by decide) (by omega) hL dL_law_724 dL_law_725 (Or.inr ⟨dL_law_727, rfl, by decide⟩) dL_law_729 dL_law_730 ha6 ?_
  refine lw_arg (j := 7) (k := 5) (iz := 11 * (n : Int)) hx hb hX hbl hB hW (lv_at hl 0 rfl) (lv_at hl 4 rfl) (by omega) (by decide) (by omega) hL dL_law_731 dL_law_732 (Or.inr ⟨dL_law_734, rfl, by decide⟩) dL_law_736 dL_law_737 ha7 ?_
  refine lw_argB (j := 8) (k := 5) (iz := 11 * (n : Int)) hx hb hX hbl hB hW (lv_at hl 0 rfl) (lv_at hl 4 rfl) (by omega) (by decide) (by omega) hL dL_law_738 dL_law_739 (Or.inr ⟨dL_law_741, rfl, by decide⟩) dL_law_743 dL_law_744 dL_law_745 dL_law_748 dL_law_749 dL_law_752 ha8 ?_
  refine lw_arg (j := 9) (k := 5) (iz := 11 * (n : Int)) hx hb hX hbl hB hW (lv_at hl 0 rfl) (lv_at hl 4 rfl) (by omega) (by decide) (by omega) hL dL_law_753 dL_law_754 (Or.inr ⟨dL_law_756, rfl, by decide⟩) dL_law_758 dL_law_759 ha9 ?_
  refine lw_argB (j := 10) (k := 5) (iz := 11 * (n : Int)) hx hb hX hbl hB hW (lv_at hl 0 rfl) (lv_at hl 4 rfl) (by omega) (by decide) (by omega) hL dL_law_760 dL_law_761 (Or.inr ⟨dL_law_763, rfl, by decide⟩) dL_law_765 dL_law_766 dL_law_767 dL_law_770 dL_law_771 dL_law_774 ha10 ?_
  refine lv_aload_n hx hb dL_law_775 rfl (lv_at hl 3 rfl) ?_
  have hJ : cJ n S (pSend S a1 a2 a3 a4 a5 a6 a7 (bz a8) a9 (bz a10)).2.2 := cI_send hn5 hI a1 a2 a3 a4 a5 a6 a7 (bz a8) a9 (bz a10)
  have hwf2 : wf (pSend S a1 a2 a3 a4 a5 a6 a7 (bz a8) a9 (bz a10)).2.2 := hJ.1.1.1.1
  have hrm := lc_room hn5 hI hJ
  refine g_xcallSH (As := [.ref (ad 0), .int (iI a1), .int (iI a2), .int (iI a3), .int (iI a4), .int (iI a5), .int (iI a6), .int (iI a7), .int (iI (bI (bz a8))), .int (iI a9), .int (iI (bI (bz a10))), .ref o]) (rest := []) K (c_L_send a1 a2 a3 a4 a5 a6 a7 (bz a8) a9 (bz a10) hwf hr1 hr2 hr3 hr4 hr5 hr6 hr7 hr9 ho (legJ_W hI.1.2.1) he (lwG_n (by decide) (by decide)) (lwG_n (by decide) (by decide)) (lwG_n (by decide) (by decide)) hP0 hE0 hI.1.2.2.2.2.2.2.2.2.2.2.1 hI.1.2.2.2.2.2.2.2.2.2.1 h26 hst lwG_o) (vx_cwSW 12 hts (gd_L gL_L_send) rfl rfl rfl (by decide +kernel) ⟨Nat.le_of_ble_eq_true rfl, Nat.le_of_ble_eq_true rfl⟩) hK hW rfl hl.1 rfl (Nat.le_of_ble_eq_true rfl) dL_law_776 hrm.1 (fun v_ f_ H locs hp hW => ?_)
  obtain ⟨hpv, ad2, bk2, I2, c2, q2, v2, had0, hPn, hEn, hval, hpe⟩ := hp
  rw [hpe, lwG_up] at hW
  subst hpv
  refine w_cs hrm.2.1 hrm.2.2.1 ?_
  refine lv_istore (lv' := [(5, .int (iI (pSend S a1 a2 a3 a4 a5 a6 a7 (bz a8) a9 (bz a10)).1)), (0, .ref b), (1, .ref (ad 0)), (2, .ref (ix 100)), (3, .ref o), (4, .int (iI (11 * (n : Int))))]) hx hb dL_law_779 hl (by decide) rfl (fun ls hl => ?_)
  have hW := toM hwf2 hW
  refine lv_aload_n hx hb dL_law_781 rfl (lv_at hl 3 rfl) ?_
  refine lw_arg (j := 1) (k := 4) (iz := 11 * (n : Int)) hx hb hX hbl hB hW (lv_at hl 1 rfl) (lv_at hl 5 rfl) (by omega) (by decide) (by omega) hL dL_law_782 dL_law_783 (Or.inl ⟨dL_law_785, rfl⟩) dL_law_786 dL_law_787 ha1 ?_
  refine lw_arg (j := 2) (k := 4) (iz := 11 * (n : Int)) hx hb hX hbl hB hW (lv_at hl 1 rfl) (lv_at hl 5 rfl) (by omega) (by decide) (by omega) hL dL_law_788 dL_law_789 (Or.inl ⟨dL_law_791, rfl⟩) dL_law_792 dL_law_793 ha2 ?_
  refine lw_arg (j := 3) (k := 4) (iz := 11 * (n : Int)) hx hb hX hbl hB hW (lv_at hl 1 rfl) (lv_at hl 5 rfl) (by omega) (by decide) (by omega) hL dL_law_794 dL_law_795 (Or.inl ⟨dL_law_797, rfl⟩) dL_law_798 dL_law_799 ha3 ?_
  refine lw_arg (j := 4) (k := 4) (iz := 11 * (n : Int)) hx hb hX hbl hB hW (lv_at hl 1 rfl) (lv_at hl 5 rfl) (by omega) (by decide) (by omega) hL dL_law_800 dL_law_801 (Or.inl ⟨dL_law_803, rfl⟩) dL_law_804 dL_law_805 ha4 ?_
  refine lw_arg (j := 5) (k := 4) (iz := 11 * (n : Int)) hx hb hX hbl hB hW (lv_at hl 1 rfl) (lv_at hl 5 rfl) (by omega) (by decide) (by omega) hL dL_law_806 dL_law_807 (Or.inl ⟨dL_law_809, rfl⟩) dL_law_810 dL_law_811 ha5 ?_
  refine lw_arg (j := 6) (k := 5) (iz := 11 * (n : Int)) hx hb hX hbl hB hW (lv_at hl 1 rfl) (lv_at hl 5 rfl) (by omega) (by decide) (by omega) hL dL_law_812 dL_law_813 (Or.inr ⟨dL_law_815, rfl, by decide⟩) dL_law_817 dL_law_818 ha6 ?_
  refine lw_arg (j := 7) (k := 5) (iz := 11 * (n : Int)) hx hb hX hbl hB hW (lv_at hl 1 rfl) (lv_at hl 5 rfl) (by omega) (by decide) (by omega) hL dL_law_819 dL_law_820 (Or.inr ⟨dL_law_822, rfl, by decide⟩) dL_law_824 dL_law_825 ha7 ?_
  refine lw_argB (j := 8) (k := 5) (iz := 11 * (n : Int)) hx hb hX hbl hB hW (lv_at hl 1 rfl) (lv_at hl 5 rfl) (by omega) (by decide) (by omega) hL dL_law_826 dL_law_827 (Or.inr ⟨dL_law_829, rfl, by decide⟩) dL_law_831 dL_law_832 dL_law_833 dL_law_836 dL_law_837 dL_law_840 ha8 ?_
  refine lw_arg (j := 9) (k := 5) (iz := 11 * (n : Int)) hx hb hX hbl hB hW (lv_at hl 1 rfl) (lv_at hl 5 rfl) (by omega) (by decide) (by omega) hL dL_law_841 dL_law_842 (Or.inr ⟨dL_law_844, rfl, by decide⟩) dL_law_846 dL_law_847 ha9 ?_
  refine lw_argB (j := 10) (k := 5) (iz := 11 * (n : Int)) hx hb hX hbl hB hW (lv_at hl 1 rfl) (lv_at hl 5 rfl) (by omega) (by decide) (by omega) hL dL_law_848 dL_law_849 (Or.inr ⟨dL_law_851, rfl, by decide⟩) dL_law_853 dL_law_854 dL_law_855 dL_law_858 dL_law_859 dL_law_862 ha10 ?_
  refine g_callV (i := 0) (As := [.int (iI a1), .int (iI a2), .int (iI a3), .int (iI a4), .int (iI a5), .int (iI a6), .int (iI a7), .int (iI (bI (bz a8))), .int (iI a9), .int (iI (bI (bz a10)))]) (rest := []) K (c_M_send a1 a2 a3 a4 a5 a6 a7 (bz a8) a9 (bz a10) hr1 hr2 hr3 hr4 hr5 hr6 hr7 hr9 ho hs8) (cwV 10 hts (gd_L gL_X12_send) rfl rfl rfl (by decide +kernel) ⟨Nat.le_of_ble_eq_true rfl, Nat.le_of_ble_eq_true rfl⟩) hK hW (mW_0 _ _ _ _ _) rfl rfl hl.1 rfl (Nat.le_of_ble_eq_true rfl) dL_law_863 hrm.2.2.2 (fun v_ f_ H locs hp hW => ?_)
  obtain ⟨hpv, J2, aM2, qM2, hpe⟩ := hp
  rw [hpe] at hW
  subst hpv
  refine lv_istore (lv' := [(6, .int (iI (pSend S a1 a2 a3 a4 a5 a6 a7 (bz a8) a9 (bz a10)).2.1)), (5, .int (iI (pSend S a1 a2 a3 a4 a5 a6 a7 (bz a8) a9 (bz a10)).1)), (0, .ref b), (1, .ref (ad 0)), (2, .ref (ix 100)), (3, .ref o), (4, .int (iI (11 * (n : Int))))]) hx hb dL_law_866 hl (by decide) rfl (fun ls hl => ?_)
  refine lv_aload_n hx hb dL_law_868 rfl (lv_at hl 4 rfl) ?_
  refine g_callV (i := 0) (As := []) (rest := []) K c_M_thrown (cwV 0 hts (gd_L gL_X12_thrown) rfl rfl rfl (by decide +kernel) ⟨Nat.le_of_ble_eq_true rfl, Nat.le_of_ble_eq_true rfl⟩) hK hW (mW_0 _ _ _ _ _) rfl rfl hl.1 rfl (Nat.le_of_ble_eq_true rfl) dL_law_869 hrm.2.2.2 (fun v_ f_ H locs hp hW => ?_)
  obtain ⟨hpv, hpe⟩ := hp
  rw [hpe] at hW
  subst hpv
  refine lv_iload hx hb dL_law_872 (lv_at hl 1 rfl) ?_
  refine lv_icmp_eq (tgt := 879) hx hb dL_law_874 (by decide) (fun _ => ?_) (fun h => absurd rfl h)
  refine lv_iload hx hb dL_law_879 (lv_at hl 1 rfl) ?_
  refine lv_if_ne (tgt := 896) hx hb dL_law_881 (by decide) (fun _ => ?_) (fun h => ?_)
  · skip
    refine lv_goto (tgt := 1966) hx hb dL_law_896 (by decide) ?_
    exact kk (pSend S a1 a2 a3 a4 a5 a6 a7 (bz a8) a9 (bz a10)).2.2 _ _ _ hJ ⟨ad2, bk2, I2, c2, q2, J2, aM2, qM2, (pSend S a1 a2 a3 a4 a5 a6 a7 (bz a8) a9 (bz a10)).1, v2, had0, hPn, hEn, toX hwf2 hW, lv_sub hl [2, 3, 4, 5, 6] rfl⟩
  · have hc : (pSend S a1 a2 a3 a4 a5 a6 a7 (bz a8) a9 (bz a10)).1 = 0 := iI_z (sGo_r _ _ _) h
    refine lv_aload_n hx hb dL_law_884 rfl (lv_at hl 5 rfl) ?_
    refine xi_iconst hx hb dL_law_885 ?_
    refine g_lald hx hb hK hW 300000 (n := 1) (g := v2) rfl (j := iI 0) (iI_in (by decide) (by decide) (by decide)) dL_law_886 ?_
    rw [nat_0, hval hc]
    refine lv_iload hx hb dL_law_887 (lv_at hl 0 rfl) ?_
    refine lv_i2l hx hb dL_law_889 rfl ?_
    refine xi_lcmp_eq (tgt := 896) hx hb dL_law_890 dL_law_891 (by decide) (fun _ => ?_) (fun h => absurd rfl h)
    refine lv_goto (tgt := 1966) hx hb dL_law_896 (by decide) ?_
    exact kk (pSend S a1 a2 a3 a4 a5 a6 a7 (bz a8) a9 (bz a10)).2.2 _ _ _ hJ ⟨ad2, bk2, I2, c2, q2, J2, aM2, qM2, (pSend S a1 a2 a3 a4 a5 a6 a7 (bz a8) a9 (bz a10)).1, v2, had0, hPn, hEn, toX hwf2 hW, lv_sub hl [2, 3, 4, 5, 6] rfl⟩
set_option maxHeartbeats 4000000 in
set_option maxRecDepth 100000 in
theorem lc_doubles {p : Program} {l : Launch} {e : Env} {s : State} {m : MethodId} {below : List Frame} {meth : Method} {c : Code} {H : Heap} {locs : List Loc} {ls : Array Slot} {D : va_G} {cy : Nat → ClassId} {B0 b L : Nat} {xs : Nat → Int32} {ix : Nat → Nat} {o x0 : Nat} {Q : State → Prop} {n : Nat} {S : ST} (C0 : lwC p l s m c D cy B0 b L xs) (hn : 11 * (n : Int) + 11 ≤ L) (hI : cI n S) (hw : lwI D cy B0 s ix o b x0 (11 * n) S H locs ls) (kk : lcK p l e s m below meth c D cy B0 b ix o x0 Q n S) : W p l e room_1 s m #[Value.ref b] below meth c H locs (lcC n S) (lcS n S) Q (F0 m 899 ls []) := by
  obtain ⟨K, hK, hB, hX, hbl, hL, hst⟩ := C0
  obtain ⟨hx, hb, hml, hown, hts⟩ := id K
  obtain ⟨ad, bk, I, cX, qX, J, aM, qM, tM, v0, rfl, hP0, hE0, hW, hl⟩ := hw
  have hn5 : n < 512 := by omega
  have ho := hI.1.1
  have hwf := ho.1
  have he : S.1 31 0 + cNF S < 19900 := by have := hI.2.2.2.1; omega
  have h26 : S.1 26 0 < 100000 := by have := hI.2.2.2.2.1; omega
  have hlg := inv_lg4 hI.1.2.1 hI.1.2.2.1 hI.2.1
  have hs8 : S.1 8 0 < 60 → S.1 18 (S.1 8 0) ≠ 4 := fun h => by rw [(hI.1.2.2.2.2.2.2.2.2.2.1 _ (Int.le_refl _) h).1]; decide
  refine lv_aload_n hx hb dL_law_899 rfl (lv_at hl 1 rfl) ?_
  have hrm := lc_up (S := S) hn5 hI
  refine g_callV (i := 100000 + 0) (As := []) (rest := []) K (c_X11_doubles hwf) (cwV 0 hts (gd_L gL_X11_doubles) rfl rfl rfl (by decide +kernel) ⟨Nat.le_of_ble_eq_true rfl, Nat.le_of_ble_eq_true rfl⟩) hK hW (kW_at rfl) rfl rfl hl.1 rfl (Nat.le_of_ble_eq_true rfl) dL_law_900 hrm.1 (fun v_ f_ H locs hp hW => ?_)
  obtain ⟨hpv, hpe⟩ := hp
  rw [hpe] at hW
  subst hpv
  have hW := toM hwf hW
  refine lv_aload_n hx hb dL_law_903 rfl (lv_at hl 2 rfl) ?_
  refine g_callV (i := 0) (As := []) (rest := [.int (iI (S.1 26 0))]) K (c_M_doubles hwf) (cwV 0 hts (gd_L gL_X12_doubles) rfl rfl rfl (by decide +kernel) ⟨Nat.le_of_ble_eq_true rfl, Nat.le_of_ble_eq_true rfl⟩) hK hW (mW_0 _ _ _ _ _) rfl rfl hl.1 rfl (Nat.le_of_ble_eq_true rfl) dL_law_904 hrm.1 (fun v_ f_ H locs hp hW => ?_)
  obtain ⟨hpv, hpe⟩ := hp
  rw [hpe] at hW
  subst hpv
  refine lv_icmp_eq (tgt := 1966) hx hb dL_law_907 (by decide) (fun _ => ?_) (fun h => absurd rfl h)
  exact W.widen hrm.2.1 hrm.2.2 (kk S _ _ _ (cI_up hI) ⟨ad, bk, I, cX, qX, J, aM, qM, 0, v0, rfl, hP0, hE0, toX hwf hW, hl⟩)
set_option maxHeartbeats 4000000 in
set_option maxRecDepth 100000 in
theorem lc_join {p : Program} {l : Launch} {e : Env} {s : State} {m : MethodId} {below : List Frame} {meth : Method} {c : Code} {H : Heap} {locs : List Loc} {ls : Array Slot} {D : va_G} {cy : Nat → ClassId} {B0 b L : Nat} {xs : Nat → Int32} {ix : Nat → Nat} {o x0 : Nat} {Q : State → Prop} {n : Nat} {S : ST} (C0 : lwC p l s m c D cy B0 b L xs) (hn : 11 * (n : Int) + 11 ≤ L) (hI : cI n S) (hw : lwI D cy B0 s ix o b x0 (11 * n) S H locs ls) (kk : lcK p l e s m below meth c D cy B0 b ix o x0 Q n S) : W p l e room_1 s m #[Value.ref b] below meth c H locs (lcC n S) (lcS n S) Q (F0 m 912 ls []) := by
  obtain ⟨K, hK, hB, hX, hbl, hL, hst⟩ := C0
  obtain ⟨hx, hb, hml, hown, hts⟩ := id K
  obtain ⟨ad, bk, I, cX, qX, J, aM, qM, tM, v0, rfl, hP0, hE0, hW, hl⟩ := hw
  have hn5 : n < 512 := by omega
  have ho := hI.1.1
  have hwf := ho.1
  have he : S.1 31 0 + cNF S < 19900 := by have := hI.2.2.2.1; omega
  have h26 : S.1 26 0 < 100000 := by have := hI.2.2.2.2.1; omega
  have hlg := inv_lg4 hI.1.2.1 hI.1.2.2.1 hI.2.1
  have hs8 : S.1 8 0 < 60 → S.1 18 (S.1 8 0) ≠ 4 := fun h => by rw [(hI.1.2.2.2.2.2.2.2.2.2.1 _ (Int.le_refl _) h).1]; decide
  obtain ⟨a1, ha1⟩ : ∃ z, (xs (11 * (n : Int) + 1).toNat).toInt = z := ⟨_, rfl⟩
  have hr1 : rI a1 := ha1 ▸ rI_32 _
  obtain ⟨a2, ha2⟩ : ∃ z, (xs (11 * (n : Int) + 2).toNat).toInt = z := ⟨_, rfl⟩
  have hr2 : rI a2 := ha2 ▸ rI_32 _
  refine lv_aload_n hx hb dL_law_912 rfl (lv_at hl 1 rfl) ?_
  refine lw_arg (j := 1) (k := 4) (iz := 11 * (n : Int)) hx hb hX hbl hB hW (lv_at hl 0 rfl) (lv_at hl 4 rfl) (by omega) (by decide) (by omega) hL dL_law_913 dL_law_914 (Or.inl ⟨dL_law_916, rfl⟩) dL_law_917 dL_law_918 ha1 ?_
  refine lw_arg (j := 2) (k := 4) (iz := 11 * (n : Int)) hx hb hX hbl hB hW (lv_at hl 0 rfl) (lv_at hl 4 rfl) (by omega) (by decide) (by omega) hL dL_law_919 dL_law_920 (Or.inl ⟨dL_law_922, rfl⟩) dL_law_923 dL_law_924 ha2 ?_
  have hJ : cJ n S (pJoin S a1 a2).2 := cI_join hn5 hI a1 a2
  have hwf2 : wf (pJoin S a1 a2).2 := hJ.1.1.1.1
  have hrm := lc_room hn5 hI hJ
  refine g_xcallSH (As := [.ref (ad 0), .int (iI a1), .int (iI a2)]) (rest := []) K (c_L_join a1 a2 hwf hr1 hr2 ho (legJ_W hI.1.2.1) he (lwG_n (by decide) (by decide)) (lwG_n (by decide) (by decide)) (lwG_n (by decide) (by decide)) hP0 hE0 hlg hst lwG_o) (vx_cwSW 3 hts (gd_L gL_L_join) rfl rfl rfl (by decide +kernel) ⟨Nat.le_of_ble_eq_true rfl, Nat.le_of_ble_eq_true rfl⟩) hK hW rfl hl.1 rfl (Nat.le_of_ble_eq_true rfl) dL_law_925 hrm.1 (fun v_ f_ H locs hp hW => ?_)
  obtain ⟨hpv, ad2, bk2, I2, c2, q2, v2, had0, hPn, hEn, hval, hpe⟩ := hp
  rw [hpe, lwG_up] at hW
  subst hpv
  refine w_cs hrm.2.1 hrm.2.2.1 ?_
  refine lv_istore (lv' := [(5, .int (iI (pJoin S a1 a2).1)), (0, .ref b), (1, .ref (ad 0)), (2, .ref (ix 100)), (3, .ref o), (4, .int (iI (11 * (n : Int))))]) hx hb dL_law_928 hl (by decide) rfl (fun ls hl => ?_)
  have hW := toM hwf2 hW
  refine lv_aload_n hx hb dL_law_930 rfl (lv_at hl 3 rfl) ?_
  refine lw_arg (j := 1) (k := 4) (iz := 11 * (n : Int)) hx hb hX hbl hB hW (lv_at hl 1 rfl) (lv_at hl 5 rfl) (by omega) (by decide) (by omega) hL dL_law_931 dL_law_932 (Or.inl ⟨dL_law_934, rfl⟩) dL_law_935 dL_law_936 ha1 ?_
  refine lw_arg (j := 2) (k := 4) (iz := 11 * (n : Int)) hx hb hX hbl hB hW (lv_at hl 1 rfl) (lv_at hl 5 rfl) (by omega) (by decide) (by omega) hL dL_law_937 dL_law_938 (Or.inl ⟨dL_law_940, rfl⟩) dL_law_941 dL_law_942 ha2 ?_
  refine g_callV (i := 0) (As := [.int (iI a1), .int (iI a2)]) (rest := []) K (c_M_join a1 a2 hr1 hr2 ho) (cwV 2 hts (gd_L gL_X12_join) rfl rfl rfl (by decide +kernel) ⟨Nat.le_of_ble_eq_true rfl, Nat.le_of_ble_eq_true rfl⟩) hK hW (mW_0 _ _ _ _ _) rfl rfl hl.1 rfl (Nat.le_of_ble_eq_true rfl) dL_law_943 hrm.2.2.2 (fun v_ f_ H locs hp hW => ?_)
  obtain ⟨hpv, J2, aM2, qM2, hpe⟩ := hp
  rw [hpe] at hW
  subst hpv
  refine lv_aload_n hx hb dL_law_946 rfl (lv_at hl 3 rfl) ?_
  refine g_callV (i := 0) (As := []) (rest := []) K c_M_thrown (cwV 0 hts (gd_L gL_X12_thrown) rfl rfl rfl (by decide +kernel) ⟨Nat.le_of_ble_eq_true rfl, Nat.le_of_ble_eq_true rfl⟩) hK hW (mW_0 _ _ _ _ _) rfl rfl hl.1 rfl (Nat.le_of_ble_eq_true rfl) dL_law_947 hrm.2.2.2 (fun v_ f_ H locs hp hW => ?_)
  obtain ⟨hpv, hpe⟩ := hp
  rw [hpe] at hW
  subst hpv
  refine lv_iload hx hb dL_law_950 (lv_at hl 0 rfl) ?_
  refine lv_icmp_eq (tgt := 957) hx hb dL_law_952 (by decide) (fun _ => ?_) (fun h => absurd rfl h)
  refine lv_goto (tgt := 1966) hx hb dL_law_957 (by decide) ?_
  exact kk (pJoin S a1 a2).2 _ _ _ hJ ⟨ad2, bk2, I2, c2, q2, J2, aM2, qM2, (pJoin S a1 a2).1, v2, had0, hPn, hEn, toX hwf2 hW, lv_sub hl [1, 2, 3, 4, 5] rfl⟩
