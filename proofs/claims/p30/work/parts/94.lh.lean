/-! the law's helpers -/
def hv (c a e1 e2 e3 : Int) : Int := if c = 0 then a else if c = 1 then e1 else if c = 2 then e2 else e3
def hvL (c : Int) (a e1 e2 : Int64) : Int64 := if c = 0 then a else if c = 1 then e1 else e2
theorem sGo_0 (a b d : Bool) : sGo a b d = 0 ↔ (a && b && d) = true := by cases a <;> cases b <;> cases d <;> decide
theorem sGo_n {a b d : Bool} {n : Int} (h : sGo a b d = n) (hn : n ≠ 0) : ¬ (a && b && d) = true := fun q => hn (h.symm.trans ((sGo_0 a b d).mpr q))
set_option maxHeartbeats 4000000 in
set_option maxRecDepth 100000 in
theorem c_L_line {l : Launch} {D : va_G} {cy : Nat → ClassId} {B0 x0 n : Nat} {S : ST} {G f : gF} (hn : n < 111) (hI : cI n S) (hst : l.stackTraces = false) (hG0 : G 50001 = none) (hG2 : G 50002 = none) (hG3 : G 50003 = none) (hF : wX D cy x0 S G f) (b : Int) (c : Int) (v : Int) (h_b : rI b) (h_c : rI c) (h_v : rI v) : gX l yL_line vL_line 14 321 D cy B0 [.ref x0, .int (iI (b)), .int (iI (c)), .int (iI (v))] f (fun r g_ => r = some (.int (iI (hv (pLine S b c v).1 (pLine S b c v).2.1 (-1000001) (-1000002) 0))) ∧ wX D cy x0 (pLine S b c v).2.2 G g_) (fun _ => False) 256 27000 := by
  obtain ⟨ad, bk, I, cX, qX, rfl, hP0, hE0, rfl⟩ := hF
  have hn5 : n < 512 := by omega
  have ho := hI.1.1
  have hwf := ho.1
  have he : S.1 31 0 + cNF S < 19900 := by have := hI.2.2.2.1; omega
  have h26 : S.1 26 0 < 100000 := by have := hI.2.2.2.2.1; omega
  have hrm := cJ_room hn hI (cI_line hn5 hI b c v)
  refine g_startXH (cc := cL_line) (maxL := 5) (ret := (some .int)) (hh := [(0, 7, 8, 16), (0, 7, 13, 19)]) (by decide) rfl (Nat.le_of_ble_eq_true rfl) ?_
  intro p_ e_ s_ m_ be_ me_ co_ ls H locs K hr hlk hnm ht hK hW hl
  obtain ⟨hx, hb, hml, hown, hts⟩ := id K
  have hl : lv_has ls 5 [(0, .ref (ad 0)), (1, .int (iI (b))), (2, .int (iI (c))), (3, .int (iI (v)))] := hl
  refine lv_aload_n hx hb dL_line_0 rfl (lv_at hl 0 rfl) ?_
  refine lv_iload_n hx hb dL_line_1 rfl (lv_at hl 1 rfl) ?_
  refine lv_iload_n hx hb dL_line_2 rfl (lv_at hl 2 rfl) ?_
  refine lv_iload_n hx hb dL_line_3 rfl (lv_at hl 3 rfl) ?_
  refine g_xcallV (i := 100000 + 0) (As := [.int (iI (b)), .int (iI (c)), .int (iI (v))]) (rest := []) K (c_X11_line b c v hwf h_b h_c h_v ho (legJ_W hI.1.2.1) he hG0 hG2 hG3 hP0 hE0 hst) (cwV 3 hts (gd_T gL_X11_line) rfl rfl rfl (by decide +kernel) ⟨Nat.le_of_ble_eq_true rfl, Nat.le_of_ble_eq_true rfl⟩) hK hW (kW_at rfl) rfl rfl hl.1 rfl (Nat.le_of_ble_eq_true rfl) dL_line_4 ⟨by dsimp only; omega, by dsimp only; omega⟩ (fun E_ ce_ q9_ H1 locs1 hE hW1 h1_ h2_ h3_ => ?_) (fun v_ f_ H locs hp hW => ?_)
  · rcases hE with ⟨hs, rfl⟩ | ⟨hs, rfl⟩
    · have hne : (pLine S b c v).2.2 = S := by unfold pLine at hs ⊢; rw [if_neg (sGo_n hs (by decide))]
      refine vx_catch (own := RL) (name := "java/lang/IndexOutOfBoundsException") (E := "java/lang/IndexOutOfBoundsException") hown ([] : List ExceptionTableEntry) ⟨0, 7, 8, 16⟩ [⟨0, 7, 13, 19⟩] ht (fun z hz => nomatch hz) rfl (by decide) (hts _ (List.mem_cons_of_mem _ wK_30)) (va_Nw.use rfl (hK.2.1 _ (List.mem_of_getElem? (i := 11) rfl))) h1_ h2_ h3_ ?_
      refine lv_astore (lv' := [(4, .ref q9_), (0, .ref (ad 0)), (1, .int (iI (b))), (2, .int (iI (c))), (3, .int (iI (v)))]) hx hb dL_line_8 hl (by decide) rfl (fun ls hl => ?_)
      refine xi_ldc hx hb (-1000001) (by decide) hown (hts _ kL_18) dL_line_10 ?_
      exact W.widen (by first | omega | (dsimp only; omega)) (by first | omega | (dsimp only; omega)) (vx_ret (g_iret hx hb hr hW1 ⟨by rw [hs]; rfl, ad, bk, I, cX, qX, rfl, fun h => hP0 (by rw [hne] at h; exact h), fun h => hE0 (by rw [hne] at h; exact h), by rw [hne]⟩ dL_line_12 hlk))
    · have hne : (pLine S b c v).2.2 = S := by unfold pLine at hs ⊢; rw [if_neg (sGo_n hs (by decide))]
      refine vx_catch (own := RL) (name := "java/lang/IllegalArgumentException") (E := "java/lang/IllegalArgumentException") hown ([⟨0, 7, 8, 16⟩] : List ExceptionTableEntry) ⟨0, 7, 13, 19⟩ [] ht (fun z hz => by rw [List.mem_singleton] at hz; subst hz; exact Or.inr ⟨by decide, _, hts _ (List.mem_cons_of_mem _ wK_30), hK.2.2.2.2.2.2.2 _ (List.mem_of_getElem? (l := gXc) (i := 0) rfl)⟩) rfl (by decide) (hts _ (List.mem_cons_of_mem _ wK_31)) (va_Nw.use rfl (hK.2.1 _ (List.mem_of_getElem? (i := 12) rfl))) h1_ h2_ h3_ ?_
      refine lv_astore (lv' := [(4, .ref q9_), (0, .ref (ad 0)), (1, .int (iI (b))), (2, .int (iI (c))), (3, .int (iI (v)))]) hx hb dL_line_13 hl (by decide) rfl (fun ls hl => ?_)
      refine xi_ldc hx hb (-1000002) (by decide) hown (hts _ kL_21) dL_line_15 ?_
      exact W.widen (by first | omega | (dsimp only; omega)) (by first | omega | (dsimp only; omega)) (vx_ret (g_iret hx hb hr hW1 ⟨by rw [hs]; rfl, ad, bk, I, cX, qX, rfl, fun h => hP0 (by rw [hne] at h; exact h), fun h => hE0 (by rw [hne] at h; exact h), by rw [hne]⟩ dL_line_17 hlk))
  · obtain ⟨hz, ad2, bk2, I2, c2, q2, ha0, hPn, hEn, hpv, hpe⟩ := hp
    rw [hpe] at hW
    subst hpv
    exact W.widen (by first | omega | (dsimp only; omega)) (by first | omega | (dsimp only; omega)) (vx_ret (g_iret hx hb hr hW ⟨by rw [hz]; rfl, ad2, bk2, I2, c2, q2, ha0, hPn, hEn, rfl⟩ dL_line_7 hlk))
set_option maxHeartbeats 4000000 in
set_option maxRecDepth 100000 in
theorem c_L_limit {l : Launch} {D : va_G} {cy : Nat → ClassId} {B0 x0 n : Nat} {S : ST} {G f : gF} (hn : n < 111) (hI : cI n S) (hst : l.stackTraces = false) (hG0 : G 50001 = none) (hG2 : G 50002 = none) (hG3 : G 50003 = none) (hF : wX D cy x0 S G f) (b : Int) (u : Int) (c : Int) (v : Int) (h_b : rI b) (h_u : rI u) (h_c : rI c) (h_v : rI v) : gX l yL_limit vL_limit 14 322 D cy B0 [.ref x0, .int (iI (b)), .int (iI (u)), .int (iI (c)), .int (iI (v))] f (fun r g_ => r = some (.int (iI (hv (pLimit S b u c v).1 (pLimit S b u c v).2.1 (-1000001) (-1000002) 0))) ∧ wX D cy x0 (pLimit S b u c v).2.2 G g_) (fun _ => False) 256 27000 := by
  obtain ⟨ad, bk, I, cX, qX, rfl, hP0, hE0, rfl⟩ := hF
  have hn5 : n < 512 := by omega
  have ho := hI.1.1
  have hwf := ho.1
  have he : S.1 31 0 + cNF S < 19900 := by have := hI.2.2.2.1; omega
  have h26 : S.1 26 0 < 100000 := by have := hI.2.2.2.2.1; omega
  have hrm := cJ_room hn hI (cI_limit hn5 hI b u c v)
  refine g_startXH (cc := cL_limit) (maxL := 6) (ret := (some .int)) (hh := [(0, 9, 10, 16), (0, 9, 15, 19)]) (by decide) rfl (Nat.le_of_ble_eq_true rfl) ?_
  intro p_ e_ s_ m_ be_ me_ co_ ls H locs K hr hlk hnm ht hK hW hl
  obtain ⟨hx, hb, hml, hown, hts⟩ := id K
  have hl : lv_has ls 6 [(0, .ref (ad 0)), (1, .int (iI (b))), (2, .int (iI (u))), (3, .int (iI (c))), (4, .int (iI (v)))] := hl
  refine lv_aload_n hx hb dL_limit_0 rfl (lv_at hl 0 rfl) ?_
  refine lv_iload_n hx hb dL_limit_1 rfl (lv_at hl 1 rfl) ?_
  refine lv_iload_n hx hb dL_limit_2 rfl (lv_at hl 2 rfl) ?_
  refine lv_iload_n hx hb dL_limit_3 rfl (lv_at hl 3 rfl) ?_
  refine lv_iload hx hb dL_limit_4 (lv_at hl 4 rfl) ?_
  refine g_xcallV (i := 100000 + 0) (As := [.int (iI (b)), .int (iI (u)), .int (iI (c)), .int (iI (v))]) (rest := []) K (c_X11_limit b u c v hwf h_b h_u h_c h_v ho (legJ_W hI.1.2.1) he hG0 hG2 hG3 hP0 hE0 hst) (cwV 4 hts (gd_T gL_X11_limit) rfl rfl rfl (by decide +kernel) ⟨Nat.le_of_ble_eq_true rfl, Nat.le_of_ble_eq_true rfl⟩) hK hW (kW_at rfl) rfl rfl hl.1 rfl (Nat.le_of_ble_eq_true rfl) dL_limit_6 ⟨by dsimp only; omega, by dsimp only; omega⟩ (fun E_ ce_ q9_ H1 locs1 hE hW1 h1_ h2_ h3_ => ?_) (fun v_ f_ H locs hp hW => ?_)
  · rcases hE with ⟨hs, rfl⟩ | ⟨hs, rfl⟩
    · have hne : (pLimit S b u c v).2.2 = S := by unfold pLimit at hs ⊢; rw [if_neg (sGo_n hs (by decide))]
      refine vx_catch (own := RL) (name := "java/lang/IndexOutOfBoundsException") (E := "java/lang/IndexOutOfBoundsException") hown ([] : List ExceptionTableEntry) ⟨0, 9, 10, 16⟩ [⟨0, 9, 15, 19⟩] ht (fun z hz => nomatch hz) rfl (by decide) (hts _ (List.mem_cons_of_mem _ wK_30)) (va_Nw.use rfl (hK.2.1 _ (List.mem_of_getElem? (i := 11) rfl))) h1_ h2_ h3_ ?_
      refine lv_astore (lv' := [(5, .ref q9_), (0, .ref (ad 0)), (1, .int (iI (b))), (2, .int (iI (u))), (3, .int (iI (c))), (4, .int (iI (v)))]) hx hb dL_limit_10 hl (by decide) rfl (fun ls hl => ?_)
      refine xi_ldc hx hb (-1000001) (by decide) hown (hts _ kL_18) dL_limit_12 ?_
      exact W.widen (by first | omega | (dsimp only; omega)) (by first | omega | (dsimp only; omega)) (vx_ret (g_iret hx hb hr hW1 ⟨by rw [hs]; rfl, ad, bk, I, cX, qX, rfl, fun h => hP0 (by rw [hne] at h; exact h), fun h => hE0 (by rw [hne] at h; exact h), by rw [hne]⟩ dL_limit_14 hlk))
    · have hne : (pLimit S b u c v).2.2 = S := by unfold pLimit at hs ⊢; rw [if_neg (sGo_n hs (by decide))]
      refine vx_catch (own := RL) (name := "java/lang/IllegalArgumentException") (E := "java/lang/IllegalArgumentException") hown ([⟨0, 9, 10, 16⟩] : List ExceptionTableEntry) ⟨0, 9, 15, 19⟩ [] ht (fun z hz => by rw [List.mem_singleton] at hz; subst hz; exact Or.inr ⟨by decide, _, hts _ (List.mem_cons_of_mem _ wK_30), hK.2.2.2.2.2.2.2 _ (List.mem_of_getElem? (l := gXc) (i := 0) rfl)⟩) rfl (by decide) (hts _ (List.mem_cons_of_mem _ wK_31)) (va_Nw.use rfl (hK.2.1 _ (List.mem_of_getElem? (i := 12) rfl))) h1_ h2_ h3_ ?_
      refine lv_astore (lv' := [(5, .ref q9_), (0, .ref (ad 0)), (1, .int (iI (b))), (2, .int (iI (u))), (3, .int (iI (c))), (4, .int (iI (v)))]) hx hb dL_limit_15 hl (by decide) rfl (fun ls hl => ?_)
      refine xi_ldc hx hb (-1000002) (by decide) hown (hts _ kL_21) dL_limit_17 ?_
      exact W.widen (by first | omega | (dsimp only; omega)) (by first | omega | (dsimp only; omega)) (vx_ret (g_iret hx hb hr hW1 ⟨by rw [hs]; rfl, ad, bk, I, cX, qX, rfl, fun h => hP0 (by rw [hne] at h; exact h), fun h => hE0 (by rw [hne] at h; exact h), by rw [hne]⟩ dL_limit_19 hlk))
  · obtain ⟨hz, ad2, bk2, I2, c2, q2, ha0, hPn, hEn, hpv, hpe⟩ := hp
    rw [hpe] at hW
    subst hpv
    exact W.widen (by first | omega | (dsimp only; omega)) (by first | omega | (dsimp only; omega)) (vx_ret (g_iret hx hb hr hW ⟨by rw [hz]; rfl, ad2, bk2, I2, c2, q2, ha0, hPn, hEn, rfl⟩ dL_limit_9 hlk))
set_option maxHeartbeats 4000000 in
set_option maxRecDepth 100000 in
theorem c_L_out {l : Launch} {D : va_G} {cy : Nat → ClassId} {B0 x0 n : Nat} {S : ST} {G f : gF} (hn : n < 111) (hI : cI n S) (hst : l.stackTraces = false) (hG0 : G 50001 = none) (hG2 : G 50002 = none) (hG3 : G 50003 = none) (hF : wX D cy x0 S G f) (b : Int) (is : Bool) (h_b : rI b) : gX l yL_out vL_out 14 320 D cy B0 [.ref x0, .int (iI (b)), .int (iI (bI (is)))] f (fun r g_ => r = some (.int (iI (hv (pOut S b is).1 (if (iI (pOut S b is).2.1) = 0 then 0 else 1) (-1000001) 0 0))) ∧ wX D cy x0 (pOut S b is).2.2 G g_) (fun _ => False) 256 27000 := by
  obtain ⟨ad, bk, I, cX, qX, rfl, hP0, hE0, rfl⟩ := hF
  have hn5 : n < 512 := by omega
  have ho := hI.1.1
  have hwf := ho.1
  have he : S.1 31 0 + cNF S < 19900 := by have := hI.2.2.2.1; omega
  have h26 : S.1 26 0 < 100000 := by have := hI.2.2.2.2.1; omega
  have hrm := cJ_room hn hI (cI_out hn5 hI b is)
  refine g_startXH (cc := cL_out) (maxL := 4) (ret := (some .int)) (hh := [(0, 14, 15, 16)]) (by decide) rfl (Nat.le_of_ble_eq_true rfl) ?_
  intro p_ e_ s_ m_ be_ me_ co_ ls H locs K hr hlk hnm ht hK hW hl
  obtain ⟨hx, hb, hml, hown, hts⟩ := id K
  have hl : lv_has ls 4 [(0, .ref (ad 0)), (1, .int (iI (b))), (2, .int (iI (bI (is))))] := hl
  refine lv_aload_n hx hb dL_out_0 rfl (lv_at hl 0 rfl) ?_
  refine lv_iload_n hx hb dL_out_1 rfl (lv_at hl 1 rfl) ?_
  refine lv_iload_n hx hb dL_out_2 rfl (lv_at hl 2 rfl) ?_
  refine g_xcallV (i := 100000 + 0) (As := [.int (iI (b)), .int (iI (bI (is)))]) (rest := []) K (c_X11_out b is hwf h_b ho (legJ_W hI.1.2.1) he hG0 hG2 hG3 hP0 hE0 hst) (cwV 2 hts (gd_T gL_X11_out) rfl rfl rfl (by decide +kernel) ⟨Nat.le_of_ble_eq_true rfl, Nat.le_of_ble_eq_true rfl⟩) hK hW (kW_at rfl) rfl rfl hl.1 rfl (Nat.le_of_ble_eq_true rfl) dL_out_3 ⟨by dsimp only; omega, by dsimp only; omega⟩ (fun E_ ce_ q9_ H1 locs1 hE hW1 h1_ h2_ h3_ => ?_) (fun v_ f_ H locs hp hW => ?_)
  · obtain ⟨hs, rfl⟩ := hE
    have hne : (pOut S b is).2.2 = S := by unfold pOut at hs ⊢; rw [if_neg (sGo_n hs (by decide))]
    refine vx_catch (own := RL) (name := "java/lang/IndexOutOfBoundsException") (E := "java/lang/IndexOutOfBoundsException") hown ([] : List ExceptionTableEntry) ⟨0, 14, 15, 16⟩ [] ht (fun z hz => nomatch hz) rfl (by decide) (hts _ (List.mem_cons_of_mem _ wK_30)) (va_Nw.use rfl (hK.2.1 _ (List.mem_of_getElem? (i := 11) rfl))) h1_ h2_ h3_ ?_
    refine lv_astore_n (lv' := [(3, .ref q9_), (0, .ref (ad 0)), (1, .int (iI (b))), (2, .int (iI (bI (is))))]) hx hb dL_out_15 rfl hl (by decide) rfl (fun ls hl => ?_)
    refine xi_ldc hx hb (-1000001) (by decide) hown (hts _ kL_18) dL_out_16 ?_
    exact W.widen (by first | omega | (dsimp only; omega)) (by first | omega | (dsimp only; omega)) (vx_ret (g_iret hx hb hr hW1 ⟨by rw [hs]; rfl, ad, bk, I, cX, qX, rfl, fun h => hP0 (by rw [hne] at h; exact h), fun h => hE0 (by rw [hne] at h; exact h), by rw [hne]⟩ dL_out_18 hlk))
  · obtain ⟨hz, ad2, bk2, I2, c2, q2, ha0, hPn, hEn, hpv, hpe⟩ := hp
    rw [hpe] at hW
    subst hpv
    refine lv_if_eq (tgt := 13) hx hb dL_out_6 (by decide) (fun h => ?_) (fun h => ?_)
    · refine xi_iconst hx hb dL_out_13 ?_
      exact W.widen (by first | omega | (dsimp only; omega)) (by first | omega | (dsimp only; omega)) (vx_ret (g_iret hx hb hr hW ⟨by rw [hz, if_pos h]; rfl, ad2, bk2, I2, c2, q2, ha0, hPn, hEn, rfl⟩ dL_out_14 hlk))
    · refine xi_iconst hx hb dL_out_9 ?_
      refine lv_goto (tgt := 14) hx hb dL_out_10 (by decide) ?_
      exact W.widen (by first | omega | (dsimp only; omega)) (by first | omega | (dsimp only; omega)) (vx_ret (g_iret hx hb hr hW ⟨by rw [hz, if_neg h]; rfl, ad2, bk2, I2, c2, q2, ha0, hPn, hEn, rfl⟩ dL_out_14 hlk))
set_option maxHeartbeats 4000000 in
set_option maxRecDepth 100000 in
theorem c_L_holiday {l : Launch} {D : va_G} {cy : Nat → ClassId} {B0 x0 n : Nat} {S : ST} {G f : gF} (hn : n < 111) (hI : cI n S) (hst : l.stackTraces = false) (hG0 : G 50001 = none) (hG2 : G 50002 = none) (hG3 : G 50003 = none) (hF : wX D cy x0 S G f) (c : Int) (d : Int) (is : Bool) (h_c : rI c) (h_d : rI d) : gX l yL_holiday vL_holiday 14 320 D cy B0 [.ref x0, .int (iI (c)), .int (iI (d)), .int (iI (bI (is)))] f (fun r g_ => r = some (.int (iI (hv (pHoli S c d is).1 (if (iI (pHoli S c d is).2.1) = 0 then 0 else 1) (-1000001) (-1000002) 0))) ∧ wX D cy x0 (pHoli S c d is).2.2 G g_) (fun _ => False) 256 27000 := by
  obtain ⟨ad, bk, I, cX, qX, rfl, hP0, hE0, rfl⟩ := hF
  have hn5 : n < 512 := by omega
  have ho := hI.1.1
  have hwf := ho.1
  have he : S.1 31 0 + cNF S < 19900 := by have := hI.2.2.2.1; omega
  have h26 : S.1 26 0 < 100000 := by have := hI.2.2.2.2.1; omega
  have hrm := cJ_room hn hI (cI_holi hn5 hI c d is)
  refine g_startXH (cc := cL_holiday) (maxL := 5) (ret := (some .int)) (hh := [(0, 15, 16, 16), (0, 15, 21, 19)]) (by decide) rfl (Nat.le_of_ble_eq_true rfl) ?_
  intro p_ e_ s_ m_ be_ me_ co_ ls H locs K hr hlk hnm ht hK hW hl
  obtain ⟨hx, hb, hml, hown, hts⟩ := id K
  have hl : lv_has ls 5 [(0, .ref (ad 0)), (1, .int (iI (c))), (2, .int (iI (d))), (3, .int (iI (bI (is))))] := hl
  refine lv_aload_n hx hb dL_holiday_0 rfl (lv_at hl 0 rfl) ?_
  refine lv_iload_n hx hb dL_holiday_1 rfl (lv_at hl 1 rfl) ?_
  refine lv_iload_n hx hb dL_holiday_2 rfl (lv_at hl 2 rfl) ?_
  refine lv_iload_n hx hb dL_holiday_3 rfl (lv_at hl 3 rfl) ?_
  refine g_xcallV (i := 100000 + 0) (As := [.int (iI (c)), .int (iI (d)), .int (iI (bI (is)))]) (rest := []) K (c_X11_holiday c d is hwf h_c h_d ho (legJ_W hI.1.2.1) he hG0 hG2 hG3 hP0 hE0 hst) (cwV 3 hts (gd_T gL_X11_holiday) rfl rfl rfl (by decide +kernel) ⟨Nat.le_of_ble_eq_true rfl, Nat.le_of_ble_eq_true rfl⟩) hK hW (kW_at rfl) rfl rfl hl.1 rfl (Nat.le_of_ble_eq_true rfl) dL_holiday_4 ⟨by dsimp only; omega, by dsimp only; omega⟩ (fun E_ ce_ q9_ H1 locs1 hE hW1 h1_ h2_ h3_ => ?_) (fun v_ f_ H locs hp hW => ?_)
  · rcases hE with ⟨hs, rfl⟩ | ⟨hs, rfl⟩
    · have hne : (pHoli S c d is).2.2 = S := by unfold pHoli at hs ⊢; rw [if_neg (sGo_n hs (by decide))]
      refine vx_catch (own := RL) (name := "java/lang/IndexOutOfBoundsException") (E := "java/lang/IndexOutOfBoundsException") hown ([] : List ExceptionTableEntry) ⟨0, 15, 16, 16⟩ [⟨0, 15, 21, 19⟩] ht (fun z hz => nomatch hz) rfl (by decide) (hts _ (List.mem_cons_of_mem _ wK_30)) (va_Nw.use rfl (hK.2.1 _ (List.mem_of_getElem? (i := 11) rfl))) h1_ h2_ h3_ ?_
      refine lv_astore (lv' := [(4, .ref q9_), (0, .ref (ad 0)), (1, .int (iI (c))), (2, .int (iI (d))), (3, .int (iI (bI (is))))]) hx hb dL_holiday_16 hl (by decide) rfl (fun ls hl => ?_)
      refine xi_ldc hx hb (-1000001) (by decide) hown (hts _ kL_18) dL_holiday_18 ?_
      exact W.widen (by first | omega | (dsimp only; omega)) (by first | omega | (dsimp only; omega)) (vx_ret (g_iret hx hb hr hW1 ⟨by rw [hs]; rfl, ad, bk, I, cX, qX, rfl, fun h => hP0 (by rw [hne] at h; exact h), fun h => hE0 (by rw [hne] at h; exact h), by rw [hne]⟩ dL_holiday_20 hlk))
    · have hne : (pHoli S c d is).2.2 = S := by unfold pHoli at hs ⊢; rw [if_neg (sGo_n hs (by decide))]
      refine vx_catch (own := RL) (name := "java/lang/IllegalArgumentException") (E := "java/lang/IllegalArgumentException") hown ([⟨0, 15, 16, 16⟩] : List ExceptionTableEntry) ⟨0, 15, 21, 19⟩ [] ht (fun z hz => by rw [List.mem_singleton] at hz; subst hz; exact Or.inr ⟨by decide, _, hts _ (List.mem_cons_of_mem _ wK_30), hK.2.2.2.2.2.2.2 _ (List.mem_of_getElem? (l := gXc) (i := 0) rfl)⟩) rfl (by decide) (hts _ (List.mem_cons_of_mem _ wK_31)) (va_Nw.use rfl (hK.2.1 _ (List.mem_of_getElem? (i := 12) rfl))) h1_ h2_ h3_ ?_
      refine lv_astore (lv' := [(4, .ref q9_), (0, .ref (ad 0)), (1, .int (iI (c))), (2, .int (iI (d))), (3, .int (iI (bI (is))))]) hx hb dL_holiday_21 hl (by decide) rfl (fun ls hl => ?_)
      refine xi_ldc hx hb (-1000002) (by decide) hown (hts _ kL_21) dL_holiday_23 ?_
      exact W.widen (by first | omega | (dsimp only; omega)) (by first | omega | (dsimp only; omega)) (vx_ret (g_iret hx hb hr hW1 ⟨by rw [hs]; rfl, ad, bk, I, cX, qX, rfl, fun h => hP0 (by rw [hne] at h; exact h), fun h => hE0 (by rw [hne] at h; exact h), by rw [hne]⟩ dL_holiday_25 hlk))
  · obtain ⟨hz, ad2, bk2, I2, c2, q2, ha0, hPn, hEn, hpv, hpe⟩ := hp
    rw [hpe] at hW
    subst hpv
    refine lv_if_eq (tgt := 14) hx hb dL_holiday_7 (by decide) (fun h => ?_) (fun h => ?_)
    · refine xi_iconst hx hb dL_holiday_14 ?_
      exact W.widen (by first | omega | (dsimp only; omega)) (by first | omega | (dsimp only; omega)) (vx_ret (g_iret hx hb hr hW ⟨by rw [hz, if_pos h]; rfl, ad2, bk2, I2, c2, q2, ha0, hPn, hEn, rfl⟩ dL_holiday_15 hlk))
    · refine xi_iconst hx hb dL_holiday_10 ?_
      refine lv_goto (tgt := 15) hx hb dL_holiday_11 (by decide) ?_
      exact W.widen (by first | omega | (dsimp only; omega)) (by first | omega | (dsimp only; omega)) (vx_ret (g_iret hx hb hr hW ⟨by rw [hz, if_neg h]; rfl, ad2, bk2, I2, c2, q2, ha0, hPn, hEn, rfl⟩ dL_holiday_15 hlk))
set_option maxHeartbeats 4000000 in
set_option maxRecDepth 100000 in
theorem c_L_list {l : Launch} {D : va_G} {cy : Nat → ClassId} {B0 x0 n : Nat} {S : ST} {G f : gF} (hn : n < 111) (hI : cI n S) (hst : l.stackTraces = false) (hG0 : G 50001 = none) (hG2 : G 50002 = none) (hG3 : G 50003 = none) (hF : wX D cy x0 S G f) (nm : Int) (is : Bool) (h_nm : rI nm) : gX l yL_list vL_list 14 320 D cy B0 [.ref x0, .int (iI (nm)), .int (iI (bI (is)))] f (fun r g_ => r = some (.int (iI (hv (pList S nm is).1 (pList S nm is).2.1 (-1000001) 0 0))) ∧ wX D cy x0 (pList S nm is).2.2 G g_) (fun _ => False) 256 27000 := by
  obtain ⟨ad, bk, I, cX, qX, rfl, hP0, hE0, rfl⟩ := hF
  have hn5 : n < 512 := by omega
  have ho := hI.1.1
  have hwf := ho.1
  have he : S.1 31 0 + cNF S < 19900 := by have := hI.2.2.2.1; omega
  have h26 : S.1 26 0 < 100000 := by have := hI.2.2.2.2.1; omega
  have hrm := cJ_room hn hI (cI_list hn5 hI nm is)
  refine g_startXH (cc := cL_list) (maxL := 4) (ret := (some .int)) (hh := [(0, 6, 7, 16)]) (by decide) rfl (Nat.le_of_ble_eq_true rfl) ?_
  intro p_ e_ s_ m_ be_ me_ co_ ls H locs K hr hlk hnm ht hK hW hl
  obtain ⟨hx, hb, hml, hown, hts⟩ := id K
  have hl : lv_has ls 4 [(0, .ref (ad 0)), (1, .int (iI (nm))), (2, .int (iI (bI (is))))] := hl
  refine lv_aload_n hx hb dL_list_0 rfl (lv_at hl 0 rfl) ?_
  refine lv_iload_n hx hb dL_list_1 rfl (lv_at hl 1 rfl) ?_
  refine lv_iload_n hx hb dL_list_2 rfl (lv_at hl 2 rfl) ?_
  refine g_xcallV (i := 100000 + 0) (As := [.int (iI (nm)), .int (iI (bI (is)))]) (rest := []) K (c_X11_list nm is hwf h_nm ho (legJ_W hI.1.2.1) he hG0 hG2 hG3 hP0 hE0 hst) (cwV 2 hts (gd_T gL_X11_list) rfl rfl rfl (by decide +kernel) ⟨Nat.le_of_ble_eq_true rfl, Nat.le_of_ble_eq_true rfl⟩) hK hW (kW_at rfl) rfl rfl hl.1 rfl (Nat.le_of_ble_eq_true rfl) dL_list_3 ⟨by dsimp only; omega, by dsimp only; omega⟩ (fun E_ ce_ q9_ H1 locs1 hE hW1 h1_ h2_ h3_ => ?_) (fun v_ f_ H locs hp hW => ?_)
  · obtain ⟨hs, rfl⟩ := hE
    have hne : (pList S nm is).2.2 = S := by unfold pList at hs ⊢; rw [if_neg (sGo_n hs (by decide))]
    refine vx_catch (own := RL) (name := "java/lang/IndexOutOfBoundsException") (E := "java/lang/IndexOutOfBoundsException") hown ([] : List ExceptionTableEntry) ⟨0, 6, 7, 16⟩ [] ht (fun z hz => nomatch hz) rfl (by decide) (hts _ (List.mem_cons_of_mem _ wK_30)) (va_Nw.use rfl (hK.2.1 _ (List.mem_of_getElem? (i := 11) rfl))) h1_ h2_ h3_ ?_
    refine lv_astore_n (lv' := [(3, .ref q9_), (0, .ref (ad 0)), (1, .int (iI (nm))), (2, .int (iI (bI (is))))]) hx hb dL_list_7 rfl hl (by decide) rfl (fun ls hl => ?_)
    refine xi_ldc hx hb (-1000001) (by decide) hown (hts _ kL_18) dL_list_8 ?_
    exact W.widen (by first | omega | (dsimp only; omega)) (by first | omega | (dsimp only; omega)) (vx_ret (g_iret hx hb hr hW1 ⟨by rw [hs]; rfl, ad, bk, I, cX, qX, rfl, fun h => hP0 (by rw [hne] at h; exact h), fun h => hE0 (by rw [hne] at h; exact h), by rw [hne]⟩ dL_list_10 hlk))
  · obtain ⟨hz, ad2, bk2, I2, c2, q2, ha0, hPn, hEn, hpv, hpe⟩ := hp
    rw [hpe] at hW
    subst hpv
    exact W.widen (by first | omega | (dsimp only; omega)) (by first | omega | (dsimp only; omega)) (vx_ret (g_iret hx hb hr hW ⟨by rw [hz]; rfl, ad2, bk2, I2, c2, q2, ha0, hPn, hEn, rfl⟩ dL_list_6 hlk))
set_option maxHeartbeats 4000000 in
set_option maxRecDepth 100000 in
theorem c_L_send {l : Launch} {D : va_G} {cy : Nat → ClassId} {B0 x0 n : Nat} {S : ST} {G f : gF} (hn : n < 111) (hI : cI n S) (hst : l.stackTraces = false) (hG0 : G 50001 = none) (hG2 : G 50002 = none) (hG3 : G 50003 = none) (hF : wX D cy x0 S G f) (b : Int) (msg : Int) (u : Int) (c : Int) (v : Int) (nm : Int) (h : Int) (rl : Bool) (d : Int) (st : Bool) (h_b : rI b) (h_msg : rI msg) (h_u : rI u) (h_c : rI c) (h_v : rI v) (h_nm : rI nm) (h_h : rI h) (h_d : rI d) : gX l yL_send vL_send 14 330 D cy B0 [.ref x0, .int (iI (b)), .int (iI (msg)), .int (iI (u)), .int (iI (c)), .int (iI (v)), .int (iI (nm)), .int (iI (h)), .int (iI (bI (rl))), .int (iI (d)), .int (iI (bI (st)))] f (fun r g_ => r = some (.int (iI (hv (pSend S b msg u c v nm h rl d st).1 (pSend S b msg u c v nm h rl d st).2.1 (-1000001) (-1000002) (-1000003)))) ∧ wX D cy x0 (pSend S b msg u c v nm h rl d st).2.2 G g_) (fun _ => False) 256 27000 := by
  obtain ⟨ad, bk, I, cX, qX, rfl, hP0, hE0, rfl⟩ := hF
  have hn5 : n < 512 := by omega
  have ho := hI.1.1
  have hwf := ho.1
  have he : S.1 31 0 + cNF S < 19900 := by have := hI.2.2.2.1; omega
  have h26 : S.1 26 0 < 100000 := by have := hI.2.2.2.2.1; omega
  have hrm := cJ_room hn hI (cI_send hn5 hI b msg u c v nm h rl d st)
  refine g_startXH (cc := cL_send) (maxL := 12) (ret := (some .int)) (hh := [(0, 21, 22, 16), (0, 21, 27, 19), (0, 21, 32, 42)]) (by decide) rfl (Nat.le_of_ble_eq_true rfl) ?_
  intro p_ e_ s_ m_ be_ me_ co_ ls H locs K hr hlk hnm ht hK hW hl
  obtain ⟨hx, hb, hml, hown, hts⟩ := id K
  have hl : lv_has ls 12 [(0, .ref (ad 0)), (1, .int (iI (b))), (2, .int (iI (msg))), (3, .int (iI (u))), (4, .int (iI (c))), (5, .int (iI (v))), (6, .int (iI (nm))), (7, .int (iI (h))), (8, .int (iI (bI (rl)))), (9, .int (iI (d))), (10, .int (iI (bI (st))))] := hl
  refine lv_aload_n hx hb dL_send_0 rfl (lv_at hl 0 rfl) ?_
  refine lv_iload_n hx hb dL_send_1 rfl (lv_at hl 1 rfl) ?_
  refine lv_iload_n hx hb dL_send_2 rfl (lv_at hl 2 rfl) ?_
  refine lv_iload_n hx hb dL_send_3 rfl (lv_at hl 3 rfl) ?_
  refine lv_iload hx hb dL_send_4 (lv_at hl 4 rfl) ?_
  refine lv_iload hx hb dL_send_6 (lv_at hl 5 rfl) ?_
  refine lv_iload hx hb dL_send_8 (lv_at hl 6 rfl) ?_
  refine lv_iload hx hb dL_send_10 (lv_at hl 7 rfl) ?_
  refine lv_iload hx hb dL_send_12 (lv_at hl 8 rfl) ?_
  refine lv_iload hx hb dL_send_14 (lv_at hl 9 rfl) ?_
  refine lv_iload hx hb dL_send_16 (lv_at hl 10 rfl) ?_
  refine g_xcallV (i := 100000 + 0) (As := [.int (iI (b)), .int (iI (msg)), .int (iI (u)), .int (iI (c)), .int (iI (v)), .int (iI (nm)), .int (iI (h)), .int (iI (bI (rl))), .int (iI (d)), .int (iI (bI (st)))]) (rest := []) K (c_X11_send b msg u c v nm h rl d st hwf h_b h_msg h_u h_c h_v h_nm h_h h_d ho (legJ_W hI.1.2.1) he hG0 hG2 hG3 hP0 hE0 hI.1.2.2.2.2.2.2.2.2.2.2.1 hI.1.2.2.2.2.2.2.2.2.2.1 h26 hst) (cwV 10 hts (gd_T gL_X11_send) rfl rfl rfl (by decide +kernel) ⟨Nat.le_of_ble_eq_true rfl, Nat.le_of_ble_eq_true rfl⟩) hK hW (kW_at rfl) rfl rfl hl.1 rfl (Nat.le_of_ble_eq_true rfl) dL_send_18 ⟨by dsimp only; omega, by dsimp only; omega⟩ (fun E_ ce_ q9_ H1 locs1 hE hW1 h1_ h2_ h3_ => ?_) (fun v_ f_ H locs hp hW => ?_)
  · rcases hE with ⟨hs, rfl⟩ | ⟨hs, rfl⟩ | ⟨hs, rfl⟩
    · have hne : (pSend S b msg u c v nm h rl d st).2.2 = S := by unfold pSend at hs ⊢; rw [if_neg (sGo_n hs (by decide))]
      refine vx_catch (own := RL) (name := "java/lang/IndexOutOfBoundsException") (E := "java/lang/IndexOutOfBoundsException") hown ([] : List ExceptionTableEntry) ⟨0, 21, 22, 16⟩ [⟨0, 21, 27, 19⟩, ⟨0, 21, 32, 42⟩] ht (fun z hz => nomatch hz) rfl (by decide) (hts _ (List.mem_cons_of_mem _ wK_30)) (va_Nw.use rfl (hK.2.1 _ (List.mem_of_getElem? (i := 11) rfl))) h1_ h2_ h3_ ?_
      refine lv_astore (lv' := [(11, .ref q9_), (0, .ref (ad 0)), (1, .int (iI (b))), (2, .int (iI (msg))), (3, .int (iI (u))), (4, .int (iI (c))), (5, .int (iI (v))), (6, .int (iI (nm))), (7, .int (iI (h))), (8, .int (iI (bI (rl)))), (9, .int (iI (d))), (10, .int (iI (bI (st))))]) hx hb dL_send_22 hl (by decide) rfl (fun ls hl => ?_)
      refine xi_ldc hx hb (-1000001) (by decide) hown (hts _ kL_18) dL_send_24 ?_
      exact W.widen (by first | omega | (dsimp only; omega)) (by first | omega | (dsimp only; omega)) (vx_ret (g_iret hx hb hr hW1 ⟨by rw [hs]; rfl, ad, bk, I, cX, qX, rfl, fun h => hP0 (by rw [hne] at h; exact h), fun h => hE0 (by rw [hne] at h; exact h), by rw [hne]⟩ dL_send_26 hlk))
    · have hne : (pSend S b msg u c v nm h rl d st).2.2 = S := by unfold pSend at hs ⊢; rw [if_neg (sGo_n hs (by decide))]
      refine vx_catch (own := RL) (name := "java/lang/IllegalArgumentException") (E := "java/lang/IllegalArgumentException") hown ([⟨0, 21, 22, 16⟩] : List ExceptionTableEntry) ⟨0, 21, 27, 19⟩ [⟨0, 21, 32, 42⟩] ht (fun z hz => by rw [List.mem_singleton] at hz; subst hz; exact Or.inr ⟨by decide, _, hts _ (List.mem_cons_of_mem _ wK_30), hK.2.2.2.2.2.2.2 _ (List.mem_of_getElem? (l := gXc) (i := 0) rfl)⟩) rfl (by decide) (hts _ (List.mem_cons_of_mem _ wK_31)) (va_Nw.use rfl (hK.2.1 _ (List.mem_of_getElem? (i := 12) rfl))) h1_ h2_ h3_ ?_
      refine lv_astore (lv' := [(11, .ref q9_), (0, .ref (ad 0)), (1, .int (iI (b))), (2, .int (iI (msg))), (3, .int (iI (u))), (4, .int (iI (c))), (5, .int (iI (v))), (6, .int (iI (nm))), (7, .int (iI (h))), (8, .int (iI (bI (rl)))), (9, .int (iI (d))), (10, .int (iI (bI (st))))]) hx hb dL_send_27 hl (by decide) rfl (fun ls hl => ?_)
      refine xi_ldc hx hb (-1000002) (by decide) hown (hts _ kL_21) dL_send_29 ?_
      exact W.widen (by first | omega | (dsimp only; omega)) (by first | omega | (dsimp only; omega)) (vx_ret (g_iret hx hb hr hW1 ⟨by rw [hs]; rfl, ad, bk, I, cX, qX, rfl, fun h => hP0 (by rw [hne] at h; exact h), fun h => hE0 (by rw [hne] at h; exact h), by rw [hne]⟩ dL_send_31 hlk))
    · have hne : (pSend S b msg u c v nm h rl d st).2.2 = S := by unfold pSend at hs ⊢; rw [if_neg (sGo_n hs (by decide))]
      refine vx_catch (own := RL) (name := "java/lang/IllegalStateException") (E := "java/lang/IllegalStateException") hown ([⟨0, 21, 22, 16⟩, ⟨0, 21, 27, 19⟩] : List ExceptionTableEntry) ⟨0, 21, 32, 42⟩ [] ht (fun z hz => by simp only [List.mem_cons, List.not_mem_nil, or_false] at hz; exact hz.elim (fun hz => (by subst hz; exact Or.inr ⟨by decide, _, hts _ (List.mem_cons_of_mem _ wK_30), hK.2.2.2.2.2.2.2 _ (List.mem_of_getElem? (l := gXc) (i := 1) rfl)⟩)) (fun hz => (by subst hz; exact Or.inr ⟨by decide, _, hts _ (List.mem_cons_of_mem _ wK_31), hK.2.2.2.2.2.2.2 _ (List.mem_of_getElem? (l := gXc) (i := 2) rfl)⟩))) rfl (by decide) (hts _ (List.mem_cons_of_mem _ wK_32)) (va_Nw.use rfl (hK.2.1 _ (List.mem_of_getElem? (i := 13) rfl))) h1_ h2_ h3_ ?_
      refine lv_astore (lv' := [(11, .ref q9_), (0, .ref (ad 0)), (1, .int (iI (b))), (2, .int (iI (msg))), (3, .int (iI (u))), (4, .int (iI (c))), (5, .int (iI (v))), (6, .int (iI (nm))), (7, .int (iI (h))), (8, .int (iI (bI (rl)))), (9, .int (iI (d))), (10, .int (iI (bI (st))))]) hx hb dL_send_32 hl (by decide) rfl (fun ls hl => ?_)
      refine xi_ldc hx hb (-1000003) (by decide) hown (hts _ kL_44) dL_send_34 ?_
      exact W.widen (by first | omega | (dsimp only; omega)) (by first | omega | (dsimp only; omega)) (vx_ret (g_iret hx hb hr hW1 ⟨by rw [hs]; rfl, ad, bk, I, cX, qX, rfl, fun h => hP0 (by rw [hne] at h; exact h), fun h => hE0 (by rw [hne] at h; exact h), by rw [hne]⟩ dL_send_36 hlk))
  · obtain ⟨hz, ad2, bk2, I2, c2, q2, ha0, hPn, hEn, hpv, hpe⟩ := hp
    rw [hpe] at hW
    subst hpv
    exact W.widen (by first | omega | (dsimp only; omega)) (by first | omega | (dsimp only; omega)) (vx_ret (g_iret hx hb hr hW ⟨by rw [hz]; rfl, ad2, bk2, I2, c2, q2, ha0, hPn, hEn, rfl⟩ dL_send_21 hlk))
set_option maxHeartbeats 4000000 in
set_option maxRecDepth 100000 in
theorem c_L_join {l : Launch} {D : va_G} {cy : Nat → ClassId} {B0 x0 n : Nat} {S : ST} {G f : gF} (hn : n < 111) (hI : cI n S) (hst : l.stackTraces = false) (hG0 : G 50001 = none) (hG2 : G 50002 = none) (hG3 : G 50003 = none) (hF : wX D cy x0 S G f) (k : Int) (u : Int) (h_k : rI k) (h_u : rI u) : gX l yL_join vL_join 14 321 D cy B0 [.ref x0, .int (iI (k)), .int (iI (u))] f (fun r g_ => r = some (.int (iI (hv (pJoin S k u).1 0 (-1000001) (-1000003) 0))) ∧ wX D cy x0 (pJoin S k u).2 G g_) (fun _ => False) 256 27000 := by
  obtain ⟨ad, bk, I, cX, qX, rfl, hP0, hE0, rfl⟩ := hF
  have hn5 : n < 512 := by omega
  have ho := hI.1.1
  have hwf := ho.1
  have he : S.1 31 0 + cNF S < 19900 := by have := hI.2.2.2.1; omega
  have h26 : S.1 26 0 < 100000 := by have := hI.2.2.2.2.1; omega
  have hrm := cJ_room hn hI (cI_join hn5 hI k u)
  refine g_startXH (cc := cL_join) (maxL := 4) (ret := (some .int)) (hh := [(0, 7, 8, 16), (0, 7, 12, 42)]) (by decide) rfl (Nat.le_of_ble_eq_true rfl) ?_
  intro p_ e_ s_ m_ be_ me_ co_ ls H locs K hr hlk hnm ht hK hW hl
  obtain ⟨hx, hb, hml, hown, hts⟩ := id K
  have hl : lv_has ls 4 [(0, .ref (ad 0)), (1, .int (iI (k))), (2, .int (iI (u)))] := hl
  refine lv_aload_n hx hb dL_join_0 rfl (lv_at hl 0 rfl) ?_
  refine lv_iload_n hx hb dL_join_1 rfl (lv_at hl 1 rfl) ?_
  refine lv_iload_n hx hb dL_join_2 rfl (lv_at hl 2 rfl) ?_
  refine g_xcallV (i := 100000 + 0) (As := [.int (iI (k)), .int (iI (u))]) (rest := []) K (c_X11_join k u hwf h_k h_u ho (legJ_W hI.1.2.1) he hG0 hG2 hG3 hP0 hE0 (inv_lg4 hI.1.2.1 hI.1.2.2.1 hI.2.1) hst) (cwV 2 hts (gd_T gL_X11_join) rfl rfl rfl (by decide +kernel) ⟨Nat.le_of_ble_eq_true rfl, Nat.le_of_ble_eq_true rfl⟩) hK hW (kW_at rfl) rfl rfl hl.1 rfl (Nat.le_of_ble_eq_true rfl) dL_join_3 ⟨by dsimp only; omega, by dsimp only; omega⟩ (fun E_ ce_ q9_ H1 locs1 hE hW1 h1_ h2_ h3_ => ?_) (fun v_ f_ H locs hp hW => ?_)
  · rcases hE with ⟨hs, rfl⟩ | ⟨hs, rfl⟩
    · have hne : (pJoin S k u).2 = S := by unfold pJoin at hs ⊢; rw [if_neg (sGo_n hs (by decide))]
      refine vx_catch (own := RL) (name := "java/lang/IndexOutOfBoundsException") (E := "java/lang/IndexOutOfBoundsException") hown ([] : List ExceptionTableEntry) ⟨0, 7, 8, 16⟩ [⟨0, 7, 12, 42⟩] ht (fun z hz => nomatch hz) rfl (by decide) (hts _ (List.mem_cons_of_mem _ wK_30)) (va_Nw.use rfl (hK.2.1 _ (List.mem_of_getElem? (i := 11) rfl))) h1_ h2_ h3_ ?_
      refine lv_astore_n (lv' := [(3, .ref q9_), (0, .ref (ad 0)), (1, .int (iI (k))), (2, .int (iI (u)))]) hx hb dL_join_8 rfl hl (by decide) rfl (fun ls hl => ?_)
      refine xi_ldc hx hb (-1000001) (by decide) hown (hts _ kL_18) dL_join_9 ?_
      exact W.widen (by first | omega | (dsimp only; omega)) (by first | omega | (dsimp only; omega)) (vx_ret (g_iret hx hb hr hW1 ⟨by rw [hs]; rfl, ad, bk, I, cX, qX, rfl, fun h => hP0 (by rw [hne] at h; exact h), fun h => hE0 (by rw [hne] at h; exact h), by rw [hne]⟩ dL_join_11 hlk))
    · have hne : (pJoin S k u).2 = S := by unfold pJoin at hs ⊢; rw [if_neg (sGo_n hs (by decide))]
      refine vx_catch (own := RL) (name := "java/lang/IllegalStateException") (E := "java/lang/IllegalStateException") hown ([⟨0, 7, 8, 16⟩] : List ExceptionTableEntry) ⟨0, 7, 12, 42⟩ [] ht (fun z hz => by rw [List.mem_singleton] at hz; subst hz; exact Or.inr ⟨by decide, _, hts _ (List.mem_cons_of_mem _ wK_30), hK.2.2.2.2.2.2.2 _ (List.mem_of_getElem? (l := gXc) (i := 1) rfl)⟩) rfl (by decide) (hts _ (List.mem_cons_of_mem _ wK_32)) (va_Nw.use rfl (hK.2.1 _ (List.mem_of_getElem? (i := 13) rfl))) h1_ h2_ h3_ ?_
      refine lv_astore_n (lv' := [(3, .ref q9_), (0, .ref (ad 0)), (1, .int (iI (k))), (2, .int (iI (u)))]) hx hb dL_join_12 rfl hl (by decide) rfl (fun ls hl => ?_)
      refine xi_ldc hx hb (-1000003) (by decide) hown (hts _ kL_44) dL_join_13 ?_
      exact W.widen (by first | omega | (dsimp only; omega)) (by first | omega | (dsimp only; omega)) (vx_ret (g_iret hx hb hr hW1 ⟨by rw [hs]; rfl, ad, bk, I, cX, qX, rfl, fun h => hP0 (by rw [hne] at h; exact h), fun h => hE0 (by rw [hne] at h; exact h), by rw [hne]⟩ dL_join_15 hlk))
  · obtain ⟨hz, ad2, bk2, I2, c2, q2, ha0, hPn, hEn, hpv, hpe⟩ := hp
    rw [hpe] at hW
    subst hpv
    refine xi_iconst hx hb dL_join_6 ?_
    exact W.widen (by first | omega | (dsimp only; omega)) (by first | omega | (dsimp only; omega)) (vx_ret (g_iret hx hb hr hW ⟨by rw [hz]; rfl, ad2, bk2, I2, c2, q2, ha0, hPn, hEn, rfl⟩ dL_join_7 hlk))
set_option maxHeartbeats 4000000 in
set_option maxRecDepth 100000 in
theorem c_L_withdraw {l : Launch} {D : va_G} {cy : Nat → ClassId} {B0 x0 n : Nat} {S : ST} {G f : gF} (hn : n < 111) (hI : cI n S) (hst : l.stackTraces = false) (hG0 : G 50001 = none) (hG2 : G 50002 = none) (hG3 : G 50003 = none) (hF : wX D cy x0 S G f) (k : Int) (h_k : rI k) : gX l yL_withdraw vL_withdraw 14 320 D cy B0 [.ref x0, .int (iI (k))] f (fun r g_ => r = some (.int (iI (hv (pWith S k).1 (pWith S k).2.1 (-1000001) (-1000003) 0))) ∧ wX D cy x0 (pWith S k).2.2 G g_) (fun _ => False) 256 27000 := by
  obtain ⟨ad, bk, I, cX, qX, rfl, hP0, hE0, rfl⟩ := hF
  have hn5 : n < 512 := by omega
  have ho := hI.1.1
  have hwf := ho.1
  have he : S.1 31 0 + cNF S < 19900 := by have := hI.2.2.2.1; omega
  have h26 : S.1 26 0 < 100000 := by have := hI.2.2.2.2.1; omega
  have hrm := cJ_room hn hI (cI_withdraw hn5 hI k)
  refine g_startXH (cc := cL_withdraw) (maxL := 3) (ret := (some .int)) (hh := [(0, 5, 6, 16), (0, 5, 10, 42)]) (by decide) rfl (Nat.le_of_ble_eq_true rfl) ?_
  intro p_ e_ s_ m_ be_ me_ co_ ls H locs K hr hlk hnm ht hK hW hl
  obtain ⟨hx, hb, hml, hown, hts⟩ := id K
  have hl : lv_has ls 3 [(0, .ref (ad 0)), (1, .int (iI (k)))] := hl
  refine lv_aload_n hx hb dL_withdraw_0 rfl (lv_at hl 0 rfl) ?_
  refine lv_iload_n hx hb dL_withdraw_1 rfl (lv_at hl 1 rfl) ?_
  refine g_xcallV (i := 100000 + 0) (As := [.int (iI (k))]) (rest := []) K (c_X11_withdraw k hwf h_k ho (legJ_W hI.1.2.1) he hG0 hG2 hG3 hP0 hE0 (inv_lg4 hI.1.2.1 hI.1.2.2.1 hI.2.1) hst) (cwV 1 hts (gd_T gL_X11_withdraw) rfl rfl rfl (by decide +kernel) ⟨Nat.le_of_ble_eq_true rfl, Nat.le_of_ble_eq_true rfl⟩) hK hW (kW_at rfl) rfl rfl hl.1 rfl (Nat.le_of_ble_eq_true rfl) dL_withdraw_2 ⟨by dsimp only; omega, by dsimp only; omega⟩ (fun E_ ce_ q9_ H1 locs1 hE hW1 h1_ h2_ h3_ => ?_) (fun v_ f_ H locs hp hW => ?_)
  · rcases hE with ⟨hs, rfl⟩ | ⟨hs, rfl⟩
    · have hne : (pWith S k).2.2 = S := by unfold pWith at hs ⊢; rw [if_neg (sGo_n hs (by decide))]
      refine vx_catch (own := RL) (name := "java/lang/IndexOutOfBoundsException") (E := "java/lang/IndexOutOfBoundsException") hown ([] : List ExceptionTableEntry) ⟨0, 5, 6, 16⟩ [⟨0, 5, 10, 42⟩] ht (fun z hz => nomatch hz) rfl (by decide) (hts _ (List.mem_cons_of_mem _ wK_30)) (va_Nw.use rfl (hK.2.1 _ (List.mem_of_getElem? (i := 11) rfl))) h1_ h2_ h3_ ?_
      refine lv_astore_n (lv' := [(2, .ref q9_), (0, .ref (ad 0)), (1, .int (iI (k)))]) hx hb dL_withdraw_6 rfl hl (by decide) rfl (fun ls hl => ?_)
      refine xi_ldc hx hb (-1000001) (by decide) hown (hts _ kL_18) dL_withdraw_7 ?_
      exact W.widen (by first | omega | (dsimp only; omega)) (by first | omega | (dsimp only; omega)) (vx_ret (g_iret hx hb hr hW1 ⟨by rw [hs]; rfl, ad, bk, I, cX, qX, rfl, fun h => hP0 (by rw [hne] at h; exact h), fun h => hE0 (by rw [hne] at h; exact h), by rw [hne]⟩ dL_withdraw_9 hlk))
    · have hne : (pWith S k).2.2 = S := by unfold pWith at hs ⊢; rw [if_neg (sGo_n hs (by decide))]
      refine vx_catch (own := RL) (name := "java/lang/IllegalStateException") (E := "java/lang/IllegalStateException") hown ([⟨0, 5, 6, 16⟩] : List ExceptionTableEntry) ⟨0, 5, 10, 42⟩ [] ht (fun z hz => by rw [List.mem_singleton] at hz; subst hz; exact Or.inr ⟨by decide, _, hts _ (List.mem_cons_of_mem _ wK_30), hK.2.2.2.2.2.2.2 _ (List.mem_of_getElem? (l := gXc) (i := 1) rfl)⟩) rfl (by decide) (hts _ (List.mem_cons_of_mem _ wK_32)) (va_Nw.use rfl (hK.2.1 _ (List.mem_of_getElem? (i := 13) rfl))) h1_ h2_ h3_ ?_
      refine lv_astore_n (lv' := [(2, .ref q9_), (0, .ref (ad 0)), (1, .int (iI (k)))]) hx hb dL_withdraw_10 rfl hl (by decide) rfl (fun ls hl => ?_)
      refine xi_ldc hx hb (-1000003) (by decide) hown (hts _ kL_44) dL_withdraw_11 ?_
      exact W.widen (by first | omega | (dsimp only; omega)) (by first | omega | (dsimp only; omega)) (vx_ret (g_iret hx hb hr hW1 ⟨by rw [hs]; rfl, ad, bk, I, cX, qX, rfl, fun h => hP0 (by rw [hne] at h; exact h), fun h => hE0 (by rw [hne] at h; exact h), by rw [hne]⟩ dL_withdraw_13 hlk))
  · obtain ⟨hz, ad2, bk2, I2, c2, q2, ha0, hPn, hEn, hpv, hpe⟩ := hp
    rw [hpe] at hW
    subst hpv
    exact W.widen (by first | omega | (dsimp only; omega)) (by first | omega | (dsimp only; omega)) (vx_ret (g_iret hx hb hr hW ⟨by rw [hz]; rfl, ad2, bk2, I2, c2, q2, ha0, hPn, hEn, rfl⟩ dL_withdraw_5 hlk))
set_option maxHeartbeats 4000000 in
set_option maxRecDepth 100000 in
theorem c_L_release {l : Launch} {D : va_G} {cy : Nat → ClassId} {B0 x0 n : Nat} {S : ST} {G f : gF} (hn : n < 111) (hI : cI n S) (hst : l.stackTraces = false) (hG0 : G 50001 = none) (hG2 : G 50002 = none) (hG3 : G 50003 = none) (hF : wX D cy x0 S G f) (k : Int) (y : Int) (h_k : rI k) (h_y : rI y) : gX l yL_release vL_release 14 321 D cy B0 [.ref x0, .int (iI (k)), .int (iI (y))] f (fun r g_ => r = some (.int (iI (hv (pRel S k y).1 (if (iI (pRel S k y).2.1) = 0 then 0 else 1) (-1000001) (-1000003) 0))) ∧ wX D cy x0 (pRel S k y).2.2 G g_) (fun _ => False) 256 27000 := by
  obtain ⟨ad, bk, I, cX, qX, rfl, hP0, hE0, rfl⟩ := hF
  have hn5 : n < 512 := by omega
  have ho := hI.1.1
  have hwf := ho.1
  have he : S.1 31 0 + cNF S < 19900 := by have := hI.2.2.2.1; omega
  have h26 : S.1 26 0 < 100000 := by have := hI.2.2.2.2.1; omega
  have hrm := cJ_room hn hI (cI_release hn5 hI k y)
  refine g_startXH (cc := cL_release) (maxL := 4) (ret := (some .int)) (hh := [(0, 14, 15, 16), (0, 14, 19, 42)]) (by decide) rfl (Nat.le_of_ble_eq_true rfl) ?_
  intro p_ e_ s_ m_ be_ me_ co_ ls H locs K hr hlk hnm ht hK hW hl
  obtain ⟨hx, hb, hml, hown, hts⟩ := id K
  have hl : lv_has ls 4 [(0, .ref (ad 0)), (1, .int (iI (k))), (2, .int (iI (y)))] := hl
  refine lv_aload_n hx hb dL_release_0 rfl (lv_at hl 0 rfl) ?_
  refine lv_iload_n hx hb dL_release_1 rfl (lv_at hl 1 rfl) ?_
  refine lv_iload_n hx hb dL_release_2 rfl (lv_at hl 2 rfl) ?_
  refine g_xcallV (i := 100000 + 0) (As := [.int (iI (k)), .int (iI (y))]) (rest := []) K (c_X11_release k y hwf h_k h_y ho (legJ_W hI.1.2.1) he hG0 hG2 hG3 hP0 hE0 (relJ_I hI.1.2.2.2.2.2.2.2.2.1) hI.2.2.1 hst) (cwV 2 hts (gd_T gL_X11_release) rfl rfl rfl (by decide +kernel) ⟨Nat.le_of_ble_eq_true rfl, Nat.le_of_ble_eq_true rfl⟩) hK hW (kW_at rfl) rfl rfl hl.1 rfl (Nat.le_of_ble_eq_true rfl) dL_release_3 ⟨by dsimp only; omega, by dsimp only; omega⟩ (fun E_ ce_ q9_ H1 locs1 hE hW1 h1_ h2_ h3_ => ?_) (fun v_ f_ H locs hp hW => ?_)
  · rcases hE with ⟨hs, rfl⟩ | ⟨hs, rfl⟩
    · have hne : (pRel S k y).2.2 = S := by unfold pRel at hs ⊢; rw [if_neg (sGo_n hs (by decide))]
      refine vx_catch (own := RL) (name := "java/lang/IndexOutOfBoundsException") (E := "java/lang/IndexOutOfBoundsException") hown ([] : List ExceptionTableEntry) ⟨0, 14, 15, 16⟩ [⟨0, 14, 19, 42⟩] ht (fun z hz => nomatch hz) rfl (by decide) (hts _ (List.mem_cons_of_mem _ wK_30)) (va_Nw.use rfl (hK.2.1 _ (List.mem_of_getElem? (i := 11) rfl))) h1_ h2_ h3_ ?_
      refine lv_astore_n (lv' := [(3, .ref q9_), (0, .ref (ad 0)), (1, .int (iI (k))), (2, .int (iI (y)))]) hx hb dL_release_15 rfl hl (by decide) rfl (fun ls hl => ?_)
      refine xi_ldc hx hb (-1000001) (by decide) hown (hts _ kL_18) dL_release_16 ?_
      exact W.widen (by first | omega | (dsimp only; omega)) (by first | omega | (dsimp only; omega)) (vx_ret (g_iret hx hb hr hW1 ⟨by rw [hs]; rfl, ad, bk, I, cX, qX, rfl, fun h => hP0 (by rw [hne] at h; exact h), fun h => hE0 (by rw [hne] at h; exact h), by rw [hne]⟩ dL_release_18 hlk))
    · have hne : (pRel S k y).2.2 = S := by unfold pRel at hs ⊢; rw [if_neg (sGo_n hs (by decide))]
      refine vx_catch (own := RL) (name := "java/lang/IllegalStateException") (E := "java/lang/IllegalStateException") hown ([⟨0, 14, 15, 16⟩] : List ExceptionTableEntry) ⟨0, 14, 19, 42⟩ [] ht (fun z hz => by rw [List.mem_singleton] at hz; subst hz; exact Or.inr ⟨by decide, _, hts _ (List.mem_cons_of_mem _ wK_30), hK.2.2.2.2.2.2.2 _ (List.mem_of_getElem? (l := gXc) (i := 1) rfl)⟩) rfl (by decide) (hts _ (List.mem_cons_of_mem _ wK_32)) (va_Nw.use rfl (hK.2.1 _ (List.mem_of_getElem? (i := 13) rfl))) h1_ h2_ h3_ ?_
      refine lv_astore_n (lv' := [(3, .ref q9_), (0, .ref (ad 0)), (1, .int (iI (k))), (2, .int (iI (y)))]) hx hb dL_release_19 rfl hl (by decide) rfl (fun ls hl => ?_)
      refine xi_ldc hx hb (-1000003) (by decide) hown (hts _ kL_44) dL_release_20 ?_
      exact W.widen (by first | omega | (dsimp only; omega)) (by first | omega | (dsimp only; omega)) (vx_ret (g_iret hx hb hr hW1 ⟨by rw [hs]; rfl, ad, bk, I, cX, qX, rfl, fun h => hP0 (by rw [hne] at h; exact h), fun h => hE0 (by rw [hne] at h; exact h), by rw [hne]⟩ dL_release_22 hlk))
  · obtain ⟨hz, ad2, bk2, I2, c2, q2, ha0, hPn, hEn, hpv, hpe⟩ := hp
    rw [hpe] at hW
    subst hpv
    refine lv_if_eq (tgt := 13) hx hb dL_release_6 (by decide) (fun h => ?_) (fun h => ?_)
    · refine xi_iconst hx hb dL_release_13 ?_
      exact W.widen (by first | omega | (dsimp only; omega)) (by first | omega | (dsimp only; omega)) (vx_ret (g_iret hx hb hr hW ⟨by rw [hz, if_pos h]; rfl, ad2, bk2, I2, c2, q2, ha0, hPn, hEn, rfl⟩ dL_release_14 hlk))
    · refine xi_iconst hx hb dL_release_9 ?_
      refine lv_goto (tgt := 14) hx hb dL_release_10 (by decide) ?_
      exact W.widen (by first | omega | (dsimp only; omega)) (by first | omega | (dsimp only; omega)) (vx_ret (g_iret hx hb hr hW ⟨by rw [hz, if_neg h]; rfl, ad2, bk2, I2, c2, q2, ha0, hPn, hEn, rfl⟩ dL_release_14 hlk))
set_option maxHeartbeats 4000000 in
set_option maxRecDepth 100000 in
theorem c_L_refuse {l : Launch} {D : va_G} {cy : Nat → ClassId} {B0 x0 n : Nat} {S : ST} {G f : gF} (hn : n < 111) (hI : cI n S) (hst : l.stackTraces = false) (hG0 : G 50001 = none) (hG2 : G 50002 = none) (hG3 : G 50003 = none) (hF : wX D cy x0 S G f) (k : Int) (h_k : rI k) : gX l yL_refuse vL_refuse 14 320 D cy B0 [.ref x0, .int (iI (k))] f (fun r g_ => r = some (.int (iI (hv (pRefu S k).1 (pRefu S k).2.1 (-1000001) (-1000003) 0))) ∧ wX D cy x0 (pRefu S k).2.2 G g_) (fun _ => False) 256 27000 := by
  obtain ⟨ad, bk, I, cX, qX, rfl, hP0, hE0, rfl⟩ := hF
  have hn5 : n < 512 := by omega
  have ho := hI.1.1
  have hwf := ho.1
  have he : S.1 31 0 + cNF S < 19900 := by have := hI.2.2.2.1; omega
  have h26 : S.1 26 0 < 100000 := by have := hI.2.2.2.2.1; omega
  have hrm := cJ_room hn hI (cI_refuse hn5 hI k)
  refine g_startXH (cc := cL_refuse) (maxL := 3) (ret := (some .int)) (hh := [(0, 5, 6, 16), (0, 5, 10, 42)]) (by decide) rfl (Nat.le_of_ble_eq_true rfl) ?_
  intro p_ e_ s_ m_ be_ me_ co_ ls H locs K hr hlk hnm ht hK hW hl
  obtain ⟨hx, hb, hml, hown, hts⟩ := id K
  have hl : lv_has ls 3 [(0, .ref (ad 0)), (1, .int (iI (k)))] := hl
  refine lv_aload_n hx hb dL_refuse_0 rfl (lv_at hl 0 rfl) ?_
  refine lv_iload_n hx hb dL_refuse_1 rfl (lv_at hl 1 rfl) ?_
  refine g_xcallV (i := 100000 + 0) (As := [.int (iI (k))]) (rest := []) K (c_X11_refuse k hwf h_k ho (legJ_W hI.1.2.1) he hG0 hG2 hG3 hP0 hE0 (inv_lg4 hI.1.2.1 hI.1.2.2.1 hI.2.1) hst) (cwV 1 hts (gd_T gL_X11_refuse) rfl rfl rfl (by decide +kernel) ⟨Nat.le_of_ble_eq_true rfl, Nat.le_of_ble_eq_true rfl⟩) hK hW (kW_at rfl) rfl rfl hl.1 rfl (Nat.le_of_ble_eq_true rfl) dL_refuse_2 ⟨by dsimp only; omega, by dsimp only; omega⟩ (fun E_ ce_ q9_ H1 locs1 hE hW1 h1_ h2_ h3_ => ?_) (fun v_ f_ H locs hp hW => ?_)
  · rcases hE with ⟨hs, rfl⟩ | ⟨hs, rfl⟩
    · have hne : (pRefu S k).2.2 = S := by unfold pRefu at hs ⊢; rw [if_neg (sGo_n hs (by decide))]
      refine vx_catch (own := RL) (name := "java/lang/IndexOutOfBoundsException") (E := "java/lang/IndexOutOfBoundsException") hown ([] : List ExceptionTableEntry) ⟨0, 5, 6, 16⟩ [⟨0, 5, 10, 42⟩] ht (fun z hz => nomatch hz) rfl (by decide) (hts _ (List.mem_cons_of_mem _ wK_30)) (va_Nw.use rfl (hK.2.1 _ (List.mem_of_getElem? (i := 11) rfl))) h1_ h2_ h3_ ?_
      refine lv_astore_n (lv' := [(2, .ref q9_), (0, .ref (ad 0)), (1, .int (iI (k)))]) hx hb dL_refuse_6 rfl hl (by decide) rfl (fun ls hl => ?_)
      refine xi_ldc hx hb (-1000001) (by decide) hown (hts _ kL_18) dL_refuse_7 ?_
      exact W.widen (by first | omega | (dsimp only; omega)) (by first | omega | (dsimp only; omega)) (vx_ret (g_iret hx hb hr hW1 ⟨by rw [hs]; rfl, ad, bk, I, cX, qX, rfl, fun h => hP0 (by rw [hne] at h; exact h), fun h => hE0 (by rw [hne] at h; exact h), by rw [hne]⟩ dL_refuse_9 hlk))
    · have hne : (pRefu S k).2.2 = S := by unfold pRefu at hs ⊢; rw [if_neg (sGo_n hs (by decide))]
      refine vx_catch (own := RL) (name := "java/lang/IllegalStateException") (E := "java/lang/IllegalStateException") hown ([⟨0, 5, 6, 16⟩] : List ExceptionTableEntry) ⟨0, 5, 10, 42⟩ [] ht (fun z hz => by rw [List.mem_singleton] at hz; subst hz; exact Or.inr ⟨by decide, _, hts _ (List.mem_cons_of_mem _ wK_30), hK.2.2.2.2.2.2.2 _ (List.mem_of_getElem? (l := gXc) (i := 1) rfl)⟩) rfl (by decide) (hts _ (List.mem_cons_of_mem _ wK_32)) (va_Nw.use rfl (hK.2.1 _ (List.mem_of_getElem? (i := 13) rfl))) h1_ h2_ h3_ ?_
      refine lv_astore_n (lv' := [(2, .ref q9_), (0, .ref (ad 0)), (1, .int (iI (k)))]) hx hb dL_refuse_10 rfl hl (by decide) rfl (fun ls hl => ?_)
      refine xi_ldc hx hb (-1000003) (by decide) hown (hts _ kL_44) dL_refuse_11 ?_
      exact W.widen (by first | omega | (dsimp only; omega)) (by first | omega | (dsimp only; omega)) (vx_ret (g_iret hx hb hr hW1 ⟨by rw [hs]; rfl, ad, bk, I, cX, qX, rfl, fun h => hP0 (by rw [hne] at h; exact h), fun h => hE0 (by rw [hne] at h; exact h), by rw [hne]⟩ dL_refuse_13 hlk))
  · obtain ⟨hz, ad2, bk2, I2, c2, q2, ha0, hPn, hEn, hpv, hpe⟩ := hp
    rw [hpe] at hW
    subst hpv
    exact W.widen (by first | omega | (dsimp only; omega)) (by first | omega | (dsimp only; omega)) (vx_ret (g_iret hx hb hr hW ⟨by rw [hz]; rfl, ad2, bk2, I2, c2, q2, ha0, hPn, hEn, rfl⟩ dL_refuse_5 hlk))
set_option maxHeartbeats 4000000 in
set_option maxRecDepth 100000 in
theorem c_L_offset {l : Launch} {D : va_G} {cy : Nat → ClassId} {B0 x0 n : Nat} {S : ST} {G f : gF} (hn : n < 111) (hI : cI n S) (hst : l.stackTraces = false) (hG0 : G 50001 = none) (hG2 : G 50002 = none) (hG3 : G 50003 = none) (hF : wX D cy x0 S G f) (c : Int) (h_c : rI c) : gX l yL_offset vL_offset 14 319 D cy B0 [.ref x0, .int (iI (c))] f (fun r g_ => r = some (.int (iI (hv (pOff S c).1 (pOff S c).2.1 (-1000001) 0 0))) ∧ wX D cy x0 (pOff S c).2.2 G g_) (fun _ => False) 256 27000 := by
  obtain ⟨ad, bk, I, cX, qX, rfl, hP0, hE0, rfl⟩ := hF
  have hn5 : n < 512 := by omega
  have ho := hI.1.1
  have hwf := ho.1
  have he : S.1 31 0 + cNF S < 19900 := by have := hI.2.2.2.1; omega
  have h26 : S.1 26 0 < 100000 := by have := hI.2.2.2.2.1; omega
  have hrm := cJ_room hn hI (cI_offset hn5 hI c)
  refine g_startXH (cc := cL_offset) (maxL := 3) (ret := (some .int)) (hh := [(0, 5, 6, 16)]) (by decide) rfl (Nat.le_of_ble_eq_true rfl) ?_
  intro p_ e_ s_ m_ be_ me_ co_ ls H locs K hr hlk hnm ht hK hW hl
  obtain ⟨hx, hb, hml, hown, hts⟩ := id K
  have hl : lv_has ls 3 [(0, .ref (ad 0)), (1, .int (iI (c)))] := hl
  refine lv_aload_n hx hb dL_offset_0 rfl (lv_at hl 0 rfl) ?_
  refine lv_iload_n hx hb dL_offset_1 rfl (lv_at hl 1 rfl) ?_
  refine g_xcallV (i := 100000 + 0) (As := [.int (iI (c))]) (rest := []) K (c_X11_offset c hwf h_c ho (legJ_W hI.1.2.1) he hG0 hG2 hG3 hP0 hE0 hst) (cwV 1 hts (gd_T gL_X11_offset) rfl rfl rfl (by decide +kernel) ⟨Nat.le_of_ble_eq_true rfl, Nat.le_of_ble_eq_true rfl⟩) hK hW (kW_at rfl) rfl rfl hl.1 rfl (Nat.le_of_ble_eq_true rfl) dL_offset_2 ⟨by dsimp only; omega, by dsimp only; omega⟩ (fun E_ ce_ q9_ H1 locs1 hE hW1 h1_ h2_ h3_ => ?_) (fun v_ f_ H locs hp hW => ?_)
  · obtain ⟨hs, rfl⟩ := hE
    have hne : (pOff S c).2.2 = S := by unfold pOff at hs ⊢; rw [if_neg (sGo_n hs (by decide))]
    refine vx_catch (own := RL) (name := "java/lang/IndexOutOfBoundsException") (E := "java/lang/IndexOutOfBoundsException") hown ([] : List ExceptionTableEntry) ⟨0, 5, 6, 16⟩ [] ht (fun z hz => nomatch hz) rfl (by decide) (hts _ (List.mem_cons_of_mem _ wK_30)) (va_Nw.use rfl (hK.2.1 _ (List.mem_of_getElem? (i := 11) rfl))) h1_ h2_ h3_ ?_
    refine lv_astore_n (lv' := [(2, .ref q9_), (0, .ref (ad 0)), (1, .int (iI (c)))]) hx hb dL_offset_6 rfl hl (by decide) rfl (fun ls hl => ?_)
    refine xi_ldc hx hb (-1000001) (by decide) hown (hts _ kL_18) dL_offset_7 ?_
    exact W.widen (by first | omega | (dsimp only; omega)) (by first | omega | (dsimp only; omega)) (vx_ret (g_iret hx hb hr hW1 ⟨by rw [hs]; rfl, ad, bk, I, cX, qX, rfl, fun h => hP0 (by rw [hne] at h; exact h), fun h => hE0 (by rw [hne] at h; exact h), by rw [hne]⟩ dL_offset_9 hlk))
  · obtain ⟨hz, ad2, bk2, I2, c2, q2, ha0, hPn, hEn, hpv, hpe⟩ := hp
    rw [hpe] at hW
    subst hpv
    exact W.widen (by first | omega | (dsimp only; omega)) (by first | omega | (dsimp only; omega)) (vx_ret (g_iret hx hb hr hW ⟨by rw [hz]; rfl, ad2, bk2, I2, c2, q2, ha0, hPn, hEn, rfl⟩ dL_offset_5 hlk))
set_option maxHeartbeats 4000000 in
set_option maxRecDepth 100000 in
theorem c_L_recall {l : Launch} {D : va_G} {cy : Nat → ClassId} {B0 x0 n : Nat} {S : ST} {G f : gF} (hn : n < 111) (hI : cI n S) (hst : l.stackTraces = false) (hG0 : G 50001 = none) (hG2 : G 50002 = none) (hG3 : G 50003 = none) (hF : wX D cy x0 S G f) (k : Int) (h_k : rI k) : gX l yL_recall vL_recall 14 320 D cy B0 [.ref x0, .int (iI (k))] f (fun r g_ => r = some (.int (iI (hv (pRec S k).1 (pRec S k).2.1 (-1000001) (-1000003) 0))) ∧ wX D cy x0 (pRec S k).2.2 G g_) (fun _ => False) 256 27000 := by
  obtain ⟨ad, bk, I, cX, qX, rfl, hP0, hE0, rfl⟩ := hF
  have hn5 : n < 512 := by omega
  have ho := hI.1.1
  have hwf := ho.1
  have he : S.1 31 0 + cNF S < 19900 := by have := hI.2.2.2.1; omega
  have h26 : S.1 26 0 < 100000 := by have := hI.2.2.2.2.1; omega
  have hrm := cJ_room hn hI (cI_recall hI k)
  refine g_startXH (cc := cL_recall) (maxL := 3) (ret := (some .int)) (hh := [(0, 5, 6, 16), (0, 5, 10, 42)]) (by decide) rfl (Nat.le_of_ble_eq_true rfl) ?_
  intro p_ e_ s_ m_ be_ me_ co_ ls H locs K hr hlk hnm ht hK hW hl
  obtain ⟨hx, hb, hml, hown, hts⟩ := id K
  have hl : lv_has ls 3 [(0, .ref (ad 0)), (1, .int (iI (k)))] := hl
  refine lv_aload_n hx hb dL_recall_0 rfl (lv_at hl 0 rfl) ?_
  refine lv_iload_n hx hb dL_recall_1 rfl (lv_at hl 1 rfl) ?_
  refine g_xcallV (i := 100000 + 0) (As := [.int (iI (k))]) (rest := []) K (c_X11_recall k hwf h_k ho (legJ_W hI.1.2.1) he hG0 hG2 hG3 hP0 hE0 hI.1.2.2.2.2.2.2.2.2.2.2.2 hI.1.2.2.2.2.2.2.2.1 hI.2.2.1 hst) (cwV 1 hts (gd_T gL_X11_recall) rfl rfl rfl (by decide +kernel) ⟨Nat.le_of_ble_eq_true rfl, Nat.le_of_ble_eq_true rfl⟩) hK hW (kW_at rfl) rfl rfl hl.1 rfl (Nat.le_of_ble_eq_true rfl) dL_recall_2 ⟨by dsimp only; omega, by dsimp only; omega⟩ (fun E_ ce_ q9_ H1 locs1 hE hW1 h1_ h2_ h3_ => ?_) (fun v_ f_ H locs hp hW => ?_)
  · rcases hE with ⟨hs, rfl⟩ | ⟨hs, rfl⟩
    · have hne : (pRec S k).2.2 = S := by unfold pRec at hs ⊢; rw [if_neg (sGo_n hs (by decide))]
      refine vx_catch (own := RL) (name := "java/lang/IndexOutOfBoundsException") (E := "java/lang/IndexOutOfBoundsException") hown ([] : List ExceptionTableEntry) ⟨0, 5, 6, 16⟩ [⟨0, 5, 10, 42⟩] ht (fun z hz => nomatch hz) rfl (by decide) (hts _ (List.mem_cons_of_mem _ wK_30)) (va_Nw.use rfl (hK.2.1 _ (List.mem_of_getElem? (i := 11) rfl))) h1_ h2_ h3_ ?_
      refine lv_astore_n (lv' := [(2, .ref q9_), (0, .ref (ad 0)), (1, .int (iI (k)))]) hx hb dL_recall_6 rfl hl (by decide) rfl (fun ls hl => ?_)
      refine xi_ldc hx hb (-1000001) (by decide) hown (hts _ kL_18) dL_recall_7 ?_
      exact W.widen (by first | omega | (dsimp only; omega)) (by first | omega | (dsimp only; omega)) (vx_ret (g_iret hx hb hr hW1 ⟨by rw [hs]; rfl, ad, bk, I, cX, qX, rfl, fun h => hP0 (by rw [hne] at h; exact h), fun h => hE0 (by rw [hne] at h; exact h), by rw [hne]⟩ dL_recall_9 hlk))
    · have hne : (pRec S k).2.2 = S := by unfold pRec at hs ⊢; rw [if_neg (sGo_n hs (by decide))]
      refine vx_catch (own := RL) (name := "java/lang/IllegalStateException") (E := "java/lang/IllegalStateException") hown ([⟨0, 5, 6, 16⟩] : List ExceptionTableEntry) ⟨0, 5, 10, 42⟩ [] ht (fun z hz => by rw [List.mem_singleton] at hz; subst hz; exact Or.inr ⟨by decide, _, hts _ (List.mem_cons_of_mem _ wK_30), hK.2.2.2.2.2.2.2 _ (List.mem_of_getElem? (l := gXc) (i := 1) rfl)⟩) rfl (by decide) (hts _ (List.mem_cons_of_mem _ wK_32)) (va_Nw.use rfl (hK.2.1 _ (List.mem_of_getElem? (i := 13) rfl))) h1_ h2_ h3_ ?_
      refine lv_astore_n (lv' := [(2, .ref q9_), (0, .ref (ad 0)), (1, .int (iI (k)))]) hx hb dL_recall_10 rfl hl (by decide) rfl (fun ls hl => ?_)
      refine xi_ldc hx hb (-1000003) (by decide) hown (hts _ kL_44) dL_recall_11 ?_
      exact W.widen (by first | omega | (dsimp only; omega)) (by first | omega | (dsimp only; omega)) (vx_ret (g_iret hx hb hr hW1 ⟨by rw [hs]; rfl, ad, bk, I, cX, qX, rfl, fun h => hP0 (by rw [hne] at h; exact h), fun h => hE0 (by rw [hne] at h; exact h), by rw [hne]⟩ dL_recall_13 hlk))
  · obtain ⟨hz, ad2, bk2, I2, c2, q2, ha0, hPn, hEn, hpv, hpe⟩ := hp
    rw [hpe] at hW
    subst hpv
    exact W.widen (by first | omega | (dsimp only; omega)) (by first | omega | (dsimp only; omega)) (vx_ret (g_iret hx hb hr hW ⟨by rw [hz]; rfl, ad2, bk2, I2, c2, q2, ha0, hPn, hEn, rfl⟩ dL_recall_5 hlk))
set_option maxHeartbeats 4000000 in
set_option maxRecDepth 100000 in
theorem c_L_answer {l : Launch} {D : va_G} {cy : Nat → ClassId} {B0 x0 n : Nat} {S : ST} {G f : gF} (hn : n < 111) (hI : cI n S) (hst : l.stackTraces = false) (hG0 : G 50001 = none) (hG2 : G 50002 = none) (hG3 : G 50003 = none) (hF : wX D cy x0 S G f) (k : Int) (y : Bool) (h_k : rI k) : gX l yL_answer vL_answer 14 321 D cy B0 [.ref x0, .int (iI (k)), .int (iI (bI (y)))] f (fun r g_ => r = some (.int (iI (hv (pAns S k y).1 (pAns S k y).2.1 (-1000001) (-1000003) 0))) ∧ wX D cy x0 (pAns S k y).2.2 G g_) (fun _ => False) 256 27000 := by
  obtain ⟨ad, bk, I, cX, qX, rfl, hP0, hE0, rfl⟩ := hF
  have hn5 : n < 512 := by omega
  have ho := hI.1.1
  have hwf := ho.1
  have he : S.1 31 0 + cNF S < 19900 := by have := hI.2.2.2.1; omega
  have h26 : S.1 26 0 < 100000 := by have := hI.2.2.2.2.1; omega
  have hrm := cJ_room hn hI (cI_answer hn5 hI k y)
  refine g_startXH (cc := cL_answer) (maxL := 4) (ret := (some .int)) (hh := [(0, 6, 7, 16), (0, 6, 11, 42)]) (by decide) rfl (Nat.le_of_ble_eq_true rfl) ?_
  intro p_ e_ s_ m_ be_ me_ co_ ls H locs K hr hlk hnm ht hK hW hl
  obtain ⟨hx, hb, hml, hown, hts⟩ := id K
  have hl : lv_has ls 4 [(0, .ref (ad 0)), (1, .int (iI (k))), (2, .int (iI (bI (y))))] := hl
  refine lv_aload_n hx hb dL_answer_0 rfl (lv_at hl 0 rfl) ?_
  refine lv_iload_n hx hb dL_answer_1 rfl (lv_at hl 1 rfl) ?_
  refine lv_iload_n hx hb dL_answer_2 rfl (lv_at hl 2 rfl) ?_
  refine g_xcallV (i := 100000 + 0) (As := [.int (iI (k)), .int (iI (bI (y)))]) (rest := []) K (c_X11_answer k y hwf h_k ho (legJ_W hI.1.2.1) he hG0 hG2 hG3 hP0 hE0 hI.1.2.2.2.2.2.2.2.1 hI.2.2.1 hI.1.2.2.2.2.2.2.2.2.2.1 hst) (cwV 2 hts (gd_T gL_X11_answer) rfl rfl rfl (by decide +kernel) ⟨Nat.le_of_ble_eq_true rfl, Nat.le_of_ble_eq_true rfl⟩) hK hW (kW_at rfl) rfl rfl hl.1 rfl (Nat.le_of_ble_eq_true rfl) dL_answer_3 ⟨by dsimp only; omega, by dsimp only; omega⟩ (fun E_ ce_ q9_ H1 locs1 hE hW1 h1_ h2_ h3_ => ?_) (fun v_ f_ H locs hp hW => ?_)
  · rcases hE with ⟨hs, rfl⟩ | ⟨hs, rfl⟩
    · have hne : (pAns S k y).2.2 = S := by unfold pAns at hs ⊢; rw [if_neg (sGo_n hs (by decide))]
      refine vx_catch (own := RL) (name := "java/lang/IndexOutOfBoundsException") (E := "java/lang/IndexOutOfBoundsException") hown ([] : List ExceptionTableEntry) ⟨0, 6, 7, 16⟩ [⟨0, 6, 11, 42⟩] ht (fun z hz => nomatch hz) rfl (by decide) (hts _ (List.mem_cons_of_mem _ wK_30)) (va_Nw.use rfl (hK.2.1 _ (List.mem_of_getElem? (i := 11) rfl))) h1_ h2_ h3_ ?_
      refine lv_astore_n (lv' := [(3, .ref q9_), (0, .ref (ad 0)), (1, .int (iI (k))), (2, .int (iI (bI (y))))]) hx hb dL_answer_7 rfl hl (by decide) rfl (fun ls hl => ?_)
      refine xi_ldc hx hb (-1000001) (by decide) hown (hts _ kL_18) dL_answer_8 ?_
      exact W.widen (by first | omega | (dsimp only; omega)) (by first | omega | (dsimp only; omega)) (vx_ret (g_iret hx hb hr hW1 ⟨by rw [hs]; rfl, ad, bk, I, cX, qX, rfl, fun h => hP0 (by rw [hne] at h; exact h), fun h => hE0 (by rw [hne] at h; exact h), by rw [hne]⟩ dL_answer_10 hlk))
    · have hne : (pAns S k y).2.2 = S := by unfold pAns at hs ⊢; rw [if_neg (sGo_n hs (by decide))]
      refine vx_catch (own := RL) (name := "java/lang/IllegalStateException") (E := "java/lang/IllegalStateException") hown ([⟨0, 6, 7, 16⟩] : List ExceptionTableEntry) ⟨0, 6, 11, 42⟩ [] ht (fun z hz => by rw [List.mem_singleton] at hz; subst hz; exact Or.inr ⟨by decide, _, hts _ (List.mem_cons_of_mem _ wK_30), hK.2.2.2.2.2.2.2 _ (List.mem_of_getElem? (l := gXc) (i := 1) rfl)⟩) rfl (by decide) (hts _ (List.mem_cons_of_mem _ wK_32)) (va_Nw.use rfl (hK.2.1 _ (List.mem_of_getElem? (i := 13) rfl))) h1_ h2_ h3_ ?_
      refine lv_astore_n (lv' := [(3, .ref q9_), (0, .ref (ad 0)), (1, .int (iI (k))), (2, .int (iI (bI (y))))]) hx hb dL_answer_11 rfl hl (by decide) rfl (fun ls hl => ?_)
      refine xi_ldc hx hb (-1000003) (by decide) hown (hts _ kL_44) dL_answer_12 ?_
      exact W.widen (by first | omega | (dsimp only; omega)) (by first | omega | (dsimp only; omega)) (vx_ret (g_iret hx hb hr hW1 ⟨by rw [hs]; rfl, ad, bk, I, cX, qX, rfl, fun h => hP0 (by rw [hne] at h; exact h), fun h => hE0 (by rw [hne] at h; exact h), by rw [hne]⟩ dL_answer_14 hlk))
  · obtain ⟨hz, ad2, bk2, I2, c2, q2, ha0, hPn, hEn, hpv, hpe⟩ := hp
    rw [hpe] at hW
    subst hpv
    exact W.widen (by first | omega | (dsimp only; omega)) (by first | omega | (dsimp only; omega)) (vx_ret (g_iret hx hb hr hW ⟨by rw [hz]; rfl, ad2, bk2, I2, c2, q2, ha0, hPn, hEn, rfl⟩ dL_answer_6 hlk))
set_option maxHeartbeats 4000000 in
set_option maxRecDepth 100000 in
theorem c_L_endDay {l : Launch} {D : va_G} {cy : Nat → ClassId} {B0 x0 n : Nat} {S : ST} {G f : gF} (hn : n < 111) (hI : cI n S) (hst : l.stackTraces = false) (hG0 : G 50001 = none) (hG2 : G 50002 = none) (hG3 : G 50003 = none) (hF : wX D cy x0 S G f)   : gX l yL_endDay vL_endDay 14 318 D cy B0 [.ref x0] f (fun r g_ => r = some (.int (iI (hv (pEnd S).1 (pEnd S).2.1 (-1000003) 0 0))) ∧ wX D cy x0 (pEnd S).2.2 G g_) (fun _ => False) 256 27000 := by
  obtain ⟨ad, bk, I, cX, qX, rfl, hP0, hE0, rfl⟩ := hF
  have hn5 : n < 512 := by omega
  have ho := hI.1.1
  have hwf := ho.1
  have he : S.1 31 0 + cNF S < 19900 := by have := hI.2.2.2.1; omega
  have h26 : S.1 26 0 < 100000 := by have := hI.2.2.2.2.1; omega
  have hrm := cJ_room hn hI (cI_endDay hn5 hI )
  refine g_startXH (cc := cL_endDay) (maxL := 2) (ret := (some .int)) (hh := [(0, 4, 5, 42)]) (by decide) rfl (Nat.le_of_ble_eq_true rfl) ?_
  intro p_ e_ s_ m_ be_ me_ co_ ls H locs K hr hlk hnm ht hK hW hl
  obtain ⟨hx, hb, hml, hown, hts⟩ := id K
  have hl : lv_has ls 2 [(0, .ref (ad 0))] := hl
  refine lv_aload_n hx hb dL_endDay_0 rfl (lv_at hl 0 rfl) ?_
  refine g_xcallV (i := 100000 + 0) (As := []) (rest := []) K (c_X11_endDay  hwf ho (legJ_W hI.1.2.1) he hG0 hG2 hG3 hP0 hE0 (inv_lg4 hI.1.2.1 hI.1.2.2.1 hI.2.1) (fin_pre hI.1 hI.2.1).1.2.2.2.2.2.2.2.2.2.2.2 (pre_balB hn5 hI) hst) (cwV 0 hts (gd_T gL_X11_endDay) rfl rfl rfl (by decide +kernel) ⟨Nat.le_of_ble_eq_true rfl, Nat.le_of_ble_eq_true rfl⟩) hK hW (kW_at rfl) rfl rfl hl.1 rfl (Nat.le_of_ble_eq_true rfl) dL_endDay_1 ⟨by dsimp only; omega, by dsimp only; omega⟩ (fun E_ ce_ q9_ H1 locs1 hE hW1 h1_ h2_ h3_ => ?_) (fun v_ f_ H locs hp hW => ?_)
  · obtain ⟨hs, rfl⟩ := hE
    have hne : (pEnd S).2.2 = S := by unfold pEnd at hs ⊢; rw [if_neg (sGo_n hs (by decide))]
    refine vx_catch (own := RL) (name := "java/lang/IllegalStateException") (E := "java/lang/IllegalStateException") hown ([] : List ExceptionTableEntry) ⟨0, 4, 5, 42⟩ [] ht (fun z hz => nomatch hz) rfl (by decide) (hts _ (List.mem_cons_of_mem _ wK_32)) (va_Nw.use rfl (hK.2.1 _ (List.mem_of_getElem? (i := 13) rfl))) h1_ h2_ h3_ ?_
    refine lv_astore_n (lv' := [(1, .ref q9_), (0, .ref (ad 0))]) hx hb dL_endDay_5 rfl hl (by decide) rfl (fun ls hl => ?_)
    refine xi_ldc hx hb (-1000003) (by decide) hown (hts _ kL_44) dL_endDay_6 ?_
    exact W.widen (by first | omega | (dsimp only; omega)) (by first | omega | (dsimp only; omega)) (vx_ret (g_iret hx hb hr hW1 ⟨by rw [hs]; rfl, ad, bk, I, cX, qX, rfl, fun h => hP0 (by rw [hne] at h; exact h), fun h => hE0 (by rw [hne] at h; exact h), by rw [hne]⟩ dL_endDay_8 hlk))
  · obtain ⟨hz, ad2, bk2, I2, c2, q2, ha0, hPn, hEn, hpv, hpe⟩ := hp
    rw [hpe] at hW
    subst hpv
    exact W.widen (by first | omega | (dsimp only; omega)) (by first | omega | (dsimp only; omega)) (vx_ret (g_iret hx hb hr hW ⟨by rw [hz]; rfl, ad2, bk2, I2, c2, q2, ha0, hPn, hEn, rfl⟩ dL_endDay_4 hlk))
set_option maxHeartbeats 4000000 in
set_option maxRecDepth 100000 in
theorem c_L_stateOf {l : Launch} {D : va_G} {cy : Nat → ClassId} {B0 x0 n : Nat} {S : ST} {G f : gF} (hn : n < 111) (hI : cI n S) (hst : l.stackTraces = false) (hG0 : G 50001 = none) (hG2 : G 50002 = none) (hG3 : G 50003 = none) (hF : wX D cy x0 S G f) (k : Int) (h_k : rI k) : gX l yL_stateOf vL_stateOf 8 152 D cy B0 [.ref x0, .int (iI (k))] f (fun r g_ => r = some (.int (iI (hv (pStat S k).1 (pStat S k).2.1 (-1000001) 0 0))) ∧ wX D cy x0 (pStat S k).2.2 G g_) (fun _ => False) 4 24 := by
  obtain ⟨ad, bk, I, cX, qX, rfl, hP0, hE0, rfl⟩ := hF
  have hn5 : n < 512 := by omega
  have ho := hI.1.1
  have hwf := ho.1
  have he : S.1 31 0 + cNF S < 19900 := by have := hI.2.2.2.1; omega
  have h26 : S.1 26 0 < 100000 := by have := hI.2.2.2.2.1; omega
  have hS2 : (pStat S k).2.2 = S := by unfold pStat; split <;> rfl
  have hrm : kTc (nE (pStat S k).2.2) - kTc (nE S) + 4 ≤ 4 ∧ kTs (nE (pStat S k).2.2) - kTs (nE S) + 24 ≤ 24 := by rw [hS2]; omega
  refine g_startXH (cc := cL_stateOf) (maxL := 3) (ret := (some .int)) (hh := [(0, 5, 6, 16)]) (by decide) rfl (Nat.le_of_ble_eq_true rfl) ?_
  intro p_ e_ s_ m_ be_ me_ co_ ls H locs K hr hlk hnm ht hK hW hl
  obtain ⟨hx, hb, hml, hown, hts⟩ := id K
  have hl : lv_has ls 3 [(0, .ref (ad 0)), (1, .int (iI (k)))] := hl
  refine lv_aload_n hx hb dL_stateOf_0 rfl (lv_at hl 0 rfl) ?_
  refine lv_iload_n hx hb dL_stateOf_1 rfl (lv_at hl 1 rfl) ?_
  refine g_xcallV (i := 100000 + 0) (As := [.int (iI (k))]) (rest := []) K (c_X11_stateOf k hwf h_k ho (legJ_W hI.1.2.1) he hG0 hG2 hG3 hP0 hE0 hst) (cwV 1 hts (gd_T gL_X11_stateOf) rfl rfl rfl (by decide +kernel) ⟨Nat.le_of_ble_eq_true rfl, Nat.le_of_ble_eq_true rfl⟩) hK hW (kW_at rfl) rfl rfl hl.1 rfl (Nat.le_of_ble_eq_true rfl) dL_stateOf_2 ⟨by dsimp only; omega, by dsimp only; omega⟩ (fun E_ ce_ q9_ H1 locs1 hE hW1 h1_ h2_ h3_ => ?_) (fun v_ f_ H locs hp hW => ?_)
  · obtain ⟨hs, rfl⟩ := hE
    have hne : (pStat S k).2.2 = S := by unfold pStat at hs ⊢; rw [if_neg (sGo_n hs (by decide))]
    refine vx_catch (own := RL) (name := "java/lang/IndexOutOfBoundsException") (E := "java/lang/IndexOutOfBoundsException") hown ([] : List ExceptionTableEntry) ⟨0, 5, 6, 16⟩ [] ht (fun z hz => nomatch hz) rfl (by decide) (hts _ (List.mem_cons_of_mem _ wK_30)) (va_Nw.use rfl (hK.2.1 _ (List.mem_of_getElem? (i := 11) rfl))) h1_ h2_ h3_ ?_
    refine lv_astore_n (lv' := [(2, .ref q9_), (0, .ref (ad 0)), (1, .int (iI (k)))]) hx hb dL_stateOf_6 rfl hl (by decide) rfl (fun ls hl => ?_)
    refine xi_ldc hx hb (-1000001) (by decide) hown (hts _ kL_18) dL_stateOf_7 ?_
    exact W.widen (by first | omega | (dsimp only; omega)) (by first | omega | (dsimp only; omega)) (vx_ret (g_iret hx hb hr hW1 ⟨by rw [hs]; rfl, ad, bk, I, cX, qX, rfl, fun h => hP0 (by rw [hne] at h; exact h), fun h => hE0 (by rw [hne] at h; exact h), by rw [hne]⟩ dL_stateOf_9 hlk))
  · obtain ⟨hz, ad2, bk2, I2, c2, q2, ha0, hPn, hEn, hpv, hpe⟩ := hp
    rw [hpe] at hW
    subst hpv
    exact W.widen (by first | omega | (dsimp only; omega)) (by first | omega | (dsimp only; omega)) (vx_ret (g_iret hx hb hr hW ⟨by rw [hz]; rfl, ad2, bk2, I2, c2, q2, ha0, hPn, hEn, rfl⟩ dL_stateOf_5 hlk))
set_option maxHeartbeats 4000000 in
set_option maxRecDepth 100000 in
theorem c_L_queueAt {l : Launch} {D : va_G} {cy : Nat → ClassId} {B0 x0 n : Nat} {S : ST} {G f : gF} (hn : n < 111) (hI : cI n S) (hst : l.stackTraces = false) (hG0 : G 50001 = none) (hG2 : G 50002 = none) (hG3 : G 50003 = none) (hF : wX D cy x0 S G f) (b : Int) (c : Int) (p : Int) (h_b : rI b) (h_c : rI c) (h_p : rI p) : gX l yL_queueAt vL_queueAt 8 162 D cy B0 [.ref x0, .int (iI (b)), .int (iI (c)), .int (iI (p))] f (fun r g_ => r = some (.int (iI (hv (pQue S b c p).1 (pQue S b c p).2.1 (-1000001) 0 0))) ∧ wX D cy x0 (pQue S b c p).2.2 G g_) (fun _ => False) 4 24 := by
  obtain ⟨ad, bk, I, cX, qX, rfl, hP0, hE0, rfl⟩ := hF
  have hn5 : n < 512 := by omega
  have ho := hI.1.1
  have hwf := ho.1
  have he : S.1 31 0 + cNF S < 19900 := by have := hI.2.2.2.1; omega
  have h26 : S.1 26 0 < 100000 := by have := hI.2.2.2.2.1; omega
  have hS2 : (pQue S b c p).2.2 = S := by unfold pQue; split <;> rfl
  have hrm : kTc (nE (pQue S b c p).2.2) - kTc (nE S) + 4 ≤ 4 ∧ kTs (nE (pQue S b c p).2.2) - kTs (nE S) + 24 ≤ 24 := by rw [hS2]; omega
  refine g_startXH (cc := cL_queueAt) (maxL := 5) (ret := (some .int)) (hh := [(0, 7, 8, 16)]) (by decide) rfl (Nat.le_of_ble_eq_true rfl) ?_
  intro p_ e_ s_ m_ be_ me_ co_ ls H locs K hr hlk hnm ht hK hW hl
  obtain ⟨hx, hb, hml, hown, hts⟩ := id K
  have hl : lv_has ls 5 [(0, .ref (ad 0)), (1, .int (iI (b))), (2, .int (iI (c))), (3, .int (iI (p)))] := hl
  refine lv_aload_n hx hb dL_queueAt_0 rfl (lv_at hl 0 rfl) ?_
  refine lv_iload_n hx hb dL_queueAt_1 rfl (lv_at hl 1 rfl) ?_
  refine lv_iload_n hx hb dL_queueAt_2 rfl (lv_at hl 2 rfl) ?_
  refine lv_iload_n hx hb dL_queueAt_3 rfl (lv_at hl 3 rfl) ?_
  refine g_xcallV (i := 100000 + 0) (As := [.int (iI (b)), .int (iI (c)), .int (iI (p))]) (rest := []) K (c_X11_queueAt b c p hwf h_b h_c h_p ho (legJ_W hI.1.2.1) he hG0 hG2 hG3 hP0 hE0 hst) (cwV 3 hts (gd_T gL_X11_queueAt) rfl rfl rfl (by decide +kernel) ⟨Nat.le_of_ble_eq_true rfl, Nat.le_of_ble_eq_true rfl⟩) hK hW (kW_at rfl) rfl rfl hl.1 rfl (Nat.le_of_ble_eq_true rfl) dL_queueAt_4 ⟨by dsimp only; omega, by dsimp only; omega⟩ (fun E_ ce_ q9_ H1 locs1 hE hW1 h1_ h2_ h3_ => ?_) (fun v_ f_ H locs hp hW => ?_)
  · obtain ⟨hs, rfl⟩ := hE
    have hne : (pQue S b c p).2.2 = S := by unfold pQue at hs ⊢; rw [if_neg (sGo_n hs (by decide))]
    refine vx_catch (own := RL) (name := "java/lang/IndexOutOfBoundsException") (E := "java/lang/IndexOutOfBoundsException") hown ([] : List ExceptionTableEntry) ⟨0, 7, 8, 16⟩ [] ht (fun z hz => nomatch hz) rfl (by decide) (hts _ (List.mem_cons_of_mem _ wK_30)) (va_Nw.use rfl (hK.2.1 _ (List.mem_of_getElem? (i := 11) rfl))) h1_ h2_ h3_ ?_
    refine lv_astore (lv' := [(4, .ref q9_), (0, .ref (ad 0)), (1, .int (iI (b))), (2, .int (iI (c))), (3, .int (iI (p)))]) hx hb dL_queueAt_8 hl (by decide) rfl (fun ls hl => ?_)
    refine xi_ldc hx hb (-1000001) (by decide) hown (hts _ kL_18) dL_queueAt_10 ?_
    exact W.widen (by first | omega | (dsimp only; omega)) (by first | omega | (dsimp only; omega)) (vx_ret (g_iret hx hb hr hW1 ⟨by rw [hs]; rfl, ad, bk, I, cX, qX, rfl, fun h => hP0 (by rw [hne] at h; exact h), fun h => hE0 (by rw [hne] at h; exact h), by rw [hne]⟩ dL_queueAt_12 hlk))
  · obtain ⟨hz, ad2, bk2, I2, c2, q2, ha0, hPn, hEn, hpv, hpe⟩ := hp
    rw [hpe] at hW
    subst hpv
    exact W.widen (by first | omega | (dsimp only; omega)) (by first | omega | (dsimp only; omega)) (vx_ret (g_iret hx hb hr hW ⟨by rw [hz]; rfl, ad2, bk2, I2, c2, q2, ha0, hPn, hEn, rfl⟩ dL_queueAt_7 hlk))
set_option maxHeartbeats 4000000 in
set_option maxRecDepth 100000 in
theorem c_L_advice {l : Launch} {D : va_G} {cy : Nat → ClassId} {B0 x0 n : Nat} {S : ST} {G f : gF} (hn : n < 111) (hI : cI n S) (hst : l.stackTraces = false) (hG0 : G 50001 = none) (hG2 : G 50002 = none) (hG3 : G 50003 = none) (hF : wX D cy x0 S G f) (b : Int) (h_b : rI b) : gX l yL_advice vL_advice 8 124 D cy B0 [.ref x0, .int (iI (b))] f (fun r g_ => r = some (.int (iI (hv (pAdv S b).1 (pAdv S b).2.1 (-1000001) 0 0))) ∧ wX D cy x0 (pAdv S b).2.2 G g_) (fun _ => False) 256 27000 := by
  obtain ⟨ad, bk, I, cX, qX, rfl, hP0, hE0, rfl⟩ := hF
  have hn5 : n < 512 := by omega
  have ho := hI.1.1
  have hwf := ho.1
  have he : S.1 31 0 + cNF S < 19900 := by have := hI.2.2.2.1; omega
  have h26 : S.1 26 0 < 100000 := by have := hI.2.2.2.2.1; omega
  have hrm := cJ_room hn hI (cI_advice hI b)
  refine g_startXH (cc := cL_advice) (maxL := 3) (ret := (some .int)) (hh := [(0, 5, 6, 16)]) (by decide) rfl (Nat.le_of_ble_eq_true rfl) ?_
  intro p_ e_ s_ m_ be_ me_ co_ ls H locs K hr hlk hnm ht hK hW hl
  obtain ⟨hx, hb, hml, hown, hts⟩ := id K
  have hl : lv_has ls 3 [(0, .ref (ad 0)), (1, .int (iI (b)))] := hl
  refine lv_aload_n hx hb dL_advice_0 rfl (lv_at hl 0 rfl) ?_
  refine lv_iload_n hx hb dL_advice_1 rfl (lv_at hl 1 rfl) ?_
  refine g_xcallV (i := 100000 + 0) (As := [.int (iI (b))]) (rest := []) K (c_X11_advice b hwf h_b ho (legJ_W hI.1.2.1) he hG0 hG2 hG3 hP0 hE0 hI.1.2.2.2.2.1 hI.1.2.2.2.2.2.2.1 hst) (cwV 1 hts (gd_T gL_X11_advice) rfl rfl rfl (by decide +kernel) ⟨Nat.le_of_ble_eq_true rfl, Nat.le_of_ble_eq_true rfl⟩) hK hW (kW_at rfl) rfl rfl hl.1 rfl (Nat.le_of_ble_eq_true rfl) dL_advice_2 ⟨by dsimp only; omega, by dsimp only; omega⟩ (fun E_ ce_ q9_ H1 locs1 hE hW1 h1_ h2_ h3_ => ?_) (fun v_ f_ H locs hp hW => ?_)
  · obtain ⟨hs, rfl⟩ := hE
    have hne : (pAdv S b).2.2 = S := by unfold pAdv at hs ⊢; rw [if_neg (sGo_n hs (by decide))]
    refine vx_catch (own := RL) (name := "java/lang/IndexOutOfBoundsException") (E := "java/lang/IndexOutOfBoundsException") hown ([] : List ExceptionTableEntry) ⟨0, 5, 6, 16⟩ [] ht (fun z hz => nomatch hz) rfl (by decide) (hts _ (List.mem_cons_of_mem _ wK_30)) (va_Nw.use rfl (hK.2.1 _ (List.mem_of_getElem? (i := 11) rfl))) h1_ h2_ h3_ ?_
    refine lv_astore_n (lv' := [(2, .ref q9_), (0, .ref (ad 0)), (1, .int (iI (b)))]) hx hb dL_advice_6 rfl hl (by decide) rfl (fun ls hl => ?_)
    refine xi_ldc hx hb (-1000001) (by decide) hown (hts _ kL_18) dL_advice_7 ?_
    exact W.widen (by first | omega | (dsimp only; omega)) (by first | omega | (dsimp only; omega)) (vx_ret (g_iret hx hb hr hW1 ⟨by rw [hs]; rfl, ad, bk, I, cX, qX, rfl, fun h => hP0 (by rw [hne] at h; exact h), fun h => hE0 (by rw [hne] at h; exact h), by rw [hne]⟩ dL_advice_9 hlk))
  · obtain ⟨hz, ad2, bk2, I2, c2, q2, ha0, hPn, hEn, hpv, hpe⟩ := hp
    rw [hpe] at hW
    subst hpv
    exact W.widen (by first | omega | (dsimp only; omega)) (by first | omega | (dsimp only; omega)) (vx_ret (g_iret hx hb hr hW ⟨by rw [hz]; rfl, ad2, bk2, I2, c2, q2, ha0, hPn, hEn, rfl⟩ dL_advice_5 hlk))
set_option maxHeartbeats 4000000 in
set_option maxRecDepth 100000 in
theorem c_L_again {l : Launch} {D : va_G} {cy : Nat → ClassId} {B0 x0 n : Nat} {S : ST} {G f : gF} (hn : n < 111) (hI : cI n S) (hst : l.stackTraces = false) (hG0 : G 50001 = none) (hG2 : G 50002 = none) (hG3 : G 50003 = none) (hF : wX D cy x0 S G f) (b : Int) (y : Int) (h_b : rI b) (h_y : rI y) : gX l yL_again vL_again 8 126 D cy B0 [.ref x0, .int (iI (b)), .int (iI (y))] f (fun r g_ => r = some (.int (iI (hv (pAga S b y).1 (pAga S b y).2.1 (-1000001) (-1000002) 0))) ∧ wX D cy x0 (pAga S b y).2.2 G g_) (fun _ => False) 256 27000 := by
  obtain ⟨ad, bk, I, cX, qX, rfl, hP0, hE0, rfl⟩ := hF
  have hn5 : n < 512 := by omega
  have ho := hI.1.1
  have hwf := ho.1
  have he : S.1 31 0 + cNF S < 19900 := by have := hI.2.2.2.1; omega
  have h26 : S.1 26 0 < 100000 := by have := hI.2.2.2.2.1; omega
  have hrm := cJ_room hn hI (cI_again hI b y)
  refine g_startXH (cc := cL_again) (maxL := 4) (ret := (some .int)) (hh := [(0, 6, 7, 16), (0, 6, 11, 19)]) (by decide) rfl (Nat.le_of_ble_eq_true rfl) ?_
  intro p_ e_ s_ m_ be_ me_ co_ ls H locs K hr hlk hnm ht hK hW hl
  obtain ⟨hx, hb, hml, hown, hts⟩ := id K
  have hl : lv_has ls 4 [(0, .ref (ad 0)), (1, .int (iI (b))), (2, .int (iI (y)))] := hl
  refine lv_aload_n hx hb dL_again_0 rfl (lv_at hl 0 rfl) ?_
  refine lv_iload_n hx hb dL_again_1 rfl (lv_at hl 1 rfl) ?_
  refine lv_iload_n hx hb dL_again_2 rfl (lv_at hl 2 rfl) ?_
  refine g_xcallV (i := 100000 + 0) (As := [.int (iI (b)), .int (iI (y))]) (rest := []) K (c_X11_again b y hwf h_b h_y ho (legJ_W hI.1.2.1) he hG0 hG2 hG3 hP0 hE0 hI.1.2.2.2.2.1 hst) (cwV 2 hts (gd_T gL_X11_again) rfl rfl rfl (by decide +kernel) ⟨Nat.le_of_ble_eq_true rfl, Nat.le_of_ble_eq_true rfl⟩) hK hW (kW_at rfl) rfl rfl hl.1 rfl (Nat.le_of_ble_eq_true rfl) dL_again_3 ⟨by dsimp only; omega, by dsimp only; omega⟩ (fun E_ ce_ q9_ H1 locs1 hE hW1 h1_ h2_ h3_ => ?_) (fun v_ f_ H locs hp hW => ?_)
  · rcases hE with ⟨hs, rfl⟩ | ⟨hs, rfl⟩
    · have hne : (pAga S b y).2.2 = S := by unfold pAga at hs ⊢; rw [if_neg (sGo_n hs (by decide))]
      refine vx_catch (own := RL) (name := "java/lang/IndexOutOfBoundsException") (E := "java/lang/IndexOutOfBoundsException") hown ([] : List ExceptionTableEntry) ⟨0, 6, 7, 16⟩ [⟨0, 6, 11, 19⟩] ht (fun z hz => nomatch hz) rfl (by decide) (hts _ (List.mem_cons_of_mem _ wK_30)) (va_Nw.use rfl (hK.2.1 _ (List.mem_of_getElem? (i := 11) rfl))) h1_ h2_ h3_ ?_
      refine lv_astore_n (lv' := [(3, .ref q9_), (0, .ref (ad 0)), (1, .int (iI (b))), (2, .int (iI (y)))]) hx hb dL_again_7 rfl hl (by decide) rfl (fun ls hl => ?_)
      refine xi_ldc hx hb (-1000001) (by decide) hown (hts _ kL_18) dL_again_8 ?_
      exact W.widen (by first | omega | (dsimp only; omega)) (by first | omega | (dsimp only; omega)) (vx_ret (g_iret hx hb hr hW1 ⟨by rw [hs]; rfl, ad, bk, I, cX, qX, rfl, fun h => hP0 (by rw [hne] at h; exact h), fun h => hE0 (by rw [hne] at h; exact h), by rw [hne]⟩ dL_again_10 hlk))
    · have hne : (pAga S b y).2.2 = S := by unfold pAga at hs ⊢; rw [if_neg (sGo_n hs (by decide))]
      refine vx_catch (own := RL) (name := "java/lang/IllegalArgumentException") (E := "java/lang/IllegalArgumentException") hown ([⟨0, 6, 7, 16⟩] : List ExceptionTableEntry) ⟨0, 6, 11, 19⟩ [] ht (fun z hz => by rw [List.mem_singleton] at hz; subst hz; exact Or.inr ⟨by decide, _, hts _ (List.mem_cons_of_mem _ wK_30), hK.2.2.2.2.2.2.2 _ (List.mem_of_getElem? (l := gXc) (i := 0) rfl)⟩) rfl (by decide) (hts _ (List.mem_cons_of_mem _ wK_31)) (va_Nw.use rfl (hK.2.1 _ (List.mem_of_getElem? (i := 12) rfl))) h1_ h2_ h3_ ?_
      refine lv_astore_n (lv' := [(3, .ref q9_), (0, .ref (ad 0)), (1, .int (iI (b))), (2, .int (iI (y)))]) hx hb dL_again_11 rfl hl (by decide) rfl (fun ls hl => ?_)
      refine xi_ldc hx hb (-1000002) (by decide) hown (hts _ kL_21) dL_again_12 ?_
      exact W.widen (by first | omega | (dsimp only; omega)) (by first | omega | (dsimp only; omega)) (vx_ret (g_iret hx hb hr hW1 ⟨by rw [hs]; rfl, ad, bk, I, cX, qX, rfl, fun h => hP0 (by rw [hne] at h; exact h), fun h => hE0 (by rw [hne] at h; exact h), by rw [hne]⟩ dL_again_14 hlk))
  · obtain ⟨hz, ad2, bk2, I2, c2, q2, ha0, hPn, hEn, hpv, hpe⟩ := hp
    rw [hpe] at hW
    subst hpv
    exact W.widen (by first | omega | (dsimp only; omega)) (by first | omega | (dsimp only; omega)) (vx_ret (g_iret hx hb hr hW ⟨by rw [hz]; rfl, ad2, bk2, I2, c2, q2, ha0, hPn, hEn, rfl⟩ dL_again_6 hlk))
set_option maxHeartbeats 4000000 in
set_option maxRecDepth 100000 in
theorem c_L_fund {l : Launch} {D : va_G} {cy : Nat → ClassId} {B0 x0 n : Nat} {S : ST} {G f : gF} (hn : n < 111) (hI : cI n S) (hst : l.stackTraces = false) (hG0 : G 50001 = none) (hG2 : G 50002 = none) (hG3 : G 50003 = none) (hF : wX D cy x0 S G f) (b : Int) (c : Int) (v : Int) (h_b : rI b) (h_c : rI c) (h_v : rI v) : gX l yL_fund vL_fund 14 320 D cy B0 [.ref x0, .int (iI (b)), .int (iI (c)), .int (iI (v))] f (fun r g_ => r = some (.long (hvL (pFund S b c v).1 (pFund S b c v).2.1 (-10000001) (-10000002))) ∧ wX D cy x0 (pFund S b c v).2.2 G g_) (fun _ => False) 256 27000 := by
  obtain ⟨ad, bk, I, cX, qX, rfl, hP0, hE0, rfl⟩ := hF
  have hn5 : n < 512 := by omega
  have ho := hI.1.1
  have hwf := ho.1
  have he : S.1 31 0 + cNF S < 19900 := by have := hI.2.2.2.1; omega
  have h26 : S.1 26 0 < 100000 := by have := hI.2.2.2.2.1; omega
  have hrm := cJ_room hn hI (cI_fund hn5 hI b c v)
  refine g_startXH (cc := cL_fund) (maxL := 5) (ret := (some .long)) (hh := [(0, 7, 8, 16), (0, 7, 14, 19)]) (by decide) rfl (Nat.le_of_ble_eq_true rfl) ?_
  intro p_ e_ s_ m_ be_ me_ co_ ls H locs K hr hlk hnm ht hK hW hl
  obtain ⟨hx, hb, hml, hown, hts⟩ := id K
  have hl : lv_has ls 5 [(0, .ref (ad 0)), (1, .int (iI (b))), (2, .int (iI (c))), (3, .int (iI (v)))] := hl
  refine lv_aload_n hx hb dL_fund_0 rfl (lv_at hl 0 rfl) ?_
  refine lv_iload_n hx hb dL_fund_1 rfl (lv_at hl 1 rfl) ?_
  refine lv_iload_n hx hb dL_fund_2 rfl (lv_at hl 2 rfl) ?_
  refine lv_iload_n hx hb dL_fund_3 rfl (lv_at hl 3 rfl) ?_
  refine g_xcallV (i := 100000 + 0) (As := [.int (iI (b)), .int (iI (c)), .int (iI (v))]) (rest := []) K (c_X11_fund b c v hwf h_b h_c h_v ho (legJ_W hI.1.2.1) he hG0 hG2 hG3 hP0 hE0 hst) (cwV 3 hts (gd_T gL_X11_fund) rfl rfl rfl (by decide +kernel) ⟨Nat.le_of_ble_eq_true rfl, Nat.le_of_ble_eq_true rfl⟩) hK hW (kW_at rfl) rfl rfl hl.1 rfl (Nat.le_of_ble_eq_true rfl) dL_fund_4 ⟨by dsimp only; omega, by dsimp only; omega⟩ (fun E_ ce_ q9_ H1 locs1 hE hW1 h1_ h2_ h3_ => ?_) (fun v_ f_ H locs hp hW => ?_)
  · rcases hE with ⟨hs, rfl⟩ | ⟨hs, rfl⟩
    · have hne : (pFund S b c v).2.2 = S := by unfold pFund at hs ⊢; rw [if_neg (sGo_n hs (by decide))]
      refine vx_catch (own := RL) (name := "java/lang/IndexOutOfBoundsException") (E := "java/lang/IndexOutOfBoundsException") hown ([] : List ExceptionTableEntry) ⟨0, 7, 8, 16⟩ [⟨0, 7, 14, 19⟩] ht (fun z hz => nomatch hz) rfl (by decide) (hts _ (List.mem_cons_of_mem _ wK_30)) (va_Nw.use rfl (hK.2.1 _ (List.mem_of_getElem? (i := 11) rfl))) h1_ h2_ h3_ ?_
      refine lv_astore (lv' := [(4, .ref q9_), (0, .ref (ad 0)), (1, .int (iI (b))), (2, .int (iI (c))), (3, .int (iI (v)))]) hx hb dL_fund_8 hl (by decide) rfl (fun ls hl => ?_)
      refine lv_ldc2 (v := -10000001) hx hb hown (hts _ kL_90) dL_fund_10 ?_
      exact W.widen (by first | omega | (dsimp only; omega)) (by first | omega | (dsimp only; omega)) (vx_ret (g_lret hx hb hr hW1 ⟨by rw [hs]; rfl, ad, bk, I, cX, qX, rfl, fun h => hP0 (by rw [hne] at h; exact h), fun h => hE0 (by rw [hne] at h; exact h), by rw [hne]⟩ dL_fund_13 hlk))
    · have hne : (pFund S b c v).2.2 = S := by unfold pFund at hs ⊢; rw [if_neg (sGo_n hs (by decide))]
      refine vx_catch (own := RL) (name := "java/lang/IllegalArgumentException") (E := "java/lang/IllegalArgumentException") hown ([⟨0, 7, 8, 16⟩] : List ExceptionTableEntry) ⟨0, 7, 14, 19⟩ [] ht (fun z hz => by rw [List.mem_singleton] at hz; subst hz; exact Or.inr ⟨by decide, _, hts _ (List.mem_cons_of_mem _ wK_30), hK.2.2.2.2.2.2.2 _ (List.mem_of_getElem? (l := gXc) (i := 0) rfl)⟩) rfl (by decide) (hts _ (List.mem_cons_of_mem _ wK_31)) (va_Nw.use rfl (hK.2.1 _ (List.mem_of_getElem? (i := 12) rfl))) h1_ h2_ h3_ ?_
      refine lv_astore (lv' := [(4, .ref q9_), (0, .ref (ad 0)), (1, .int (iI (b))), (2, .int (iI (c))), (3, .int (iI (v)))]) hx hb dL_fund_14 hl (by decide) rfl (fun ls hl => ?_)
      refine lv_ldc2 (v := -10000002) hx hb hown (hts _ kL_92) dL_fund_16 ?_
      exact W.widen (by first | omega | (dsimp only; omega)) (by first | omega | (dsimp only; omega)) (vx_ret (g_lret hx hb hr hW1 ⟨by rw [hs]; rfl, ad, bk, I, cX, qX, rfl, fun h => hP0 (by rw [hne] at h; exact h), fun h => hE0 (by rw [hne] at h; exact h), by rw [hne]⟩ dL_fund_19 hlk))
  · obtain ⟨hz, ad2, bk2, I2, c2, q2, ha0, hPn, hEn, hpv, hpe⟩ := hp
    rw [hpe] at hW
    subst hpv
    exact W.widen (by first | omega | (dsimp only; omega)) (by first | omega | (dsimp only; omega)) (vx_ret (g_lret hx hb hr hW ⟨by rw [hz]; rfl, ad2, bk2, I2, c2, q2, ha0, hPn, hEn, rfl⟩ dL_fund_7 hlk))
set_option maxHeartbeats 4000000 in
set_option maxRecDepth 100000 in
theorem c_L_account {l : Launch} {D : va_G} {cy : Nat → ClassId} {B0 x0 n : Nat} {S : ST} {G f : gF} (hn : n < 111) (hI : cI n S) (hst : l.stackTraces = false) (hG0 : G 50001 = none) (hG2 : G 50002 = none) (hG3 : G 50003 = none) (hF : wX D cy x0 S G f) (b : Int) (c : Int) (h_b : rI b) (h_c : rI c) : gX l yL_account vL_account 8 125 D cy B0 [.ref x0, .int (iI (b)), .int (iI (c))] f (fun r g_ => r = some (.long (hvL (pAcc S b c).1 (pAcc S b c).2.1 (-10000001) 0)) ∧ wX D cy x0 (pAcc S b c).2.2 G g_) (fun _ => False) 4 24 := by
  obtain ⟨ad, bk, I, cX, qX, rfl, hP0, hE0, rfl⟩ := hF
  have hn5 : n < 512 := by omega
  have ho := hI.1.1
  have hwf := ho.1
  have he : S.1 31 0 + cNF S < 19900 := by have := hI.2.2.2.1; omega
  have h26 : S.1 26 0 < 100000 := by have := hI.2.2.2.2.1; omega
  have hS2 : (pAcc S b c).2.2 = S := by unfold pAcc; split <;> rfl
  have hrm : kTc (nE (pAcc S b c).2.2) - kTc (nE S) + 4 ≤ 4 ∧ kTs (nE (pAcc S b c).2.2) - kTs (nE S) + 24 ≤ 24 := by rw [hS2]; omega
  refine g_startXH (cc := cL_account) (maxL := 4) (ret := (some .long)) (hh := [(0, 6, 7, 16)]) (by decide) rfl (Nat.le_of_ble_eq_true rfl) ?_
  intro p_ e_ s_ m_ be_ me_ co_ ls H locs K hr hlk hnm ht hK hW hl
  obtain ⟨hx, hb, hml, hown, hts⟩ := id K
  have hl : lv_has ls 4 [(0, .ref (ad 0)), (1, .int (iI (b))), (2, .int (iI (c)))] := hl
  refine lv_aload_n hx hb dL_account_0 rfl (lv_at hl 0 rfl) ?_
  refine lv_iload_n hx hb dL_account_1 rfl (lv_at hl 1 rfl) ?_
  refine lv_iload_n hx hb dL_account_2 rfl (lv_at hl 2 rfl) ?_
  refine g_xcallV (i := 100000 + 0) (As := [.int (iI (b)), .int (iI (c))]) (rest := []) K (c_X11_account b c hwf h_b h_c ho (legJ_W hI.1.2.1) he hG0 hG2 hG3 hP0 hE0 hst) (cwV 2 hts (gd_T gL_X11_account) rfl rfl rfl (by decide +kernel) ⟨Nat.le_of_ble_eq_true rfl, Nat.le_of_ble_eq_true rfl⟩) hK hW (kW_at rfl) rfl rfl hl.1 rfl (Nat.le_of_ble_eq_true rfl) dL_account_3 ⟨by dsimp only; omega, by dsimp only; omega⟩ (fun E_ ce_ q9_ H1 locs1 hE hW1 h1_ h2_ h3_ => ?_) (fun v_ f_ H locs hp hW => ?_)
  · obtain ⟨hs, rfl⟩ := hE
    have hne : (pAcc S b c).2.2 = S := by unfold pAcc at hs ⊢; rw [if_neg (sGo_n hs (by decide))]
    refine vx_catch (own := RL) (name := "java/lang/IndexOutOfBoundsException") (E := "java/lang/IndexOutOfBoundsException") hown ([] : List ExceptionTableEntry) ⟨0, 6, 7, 16⟩ [] ht (fun z hz => nomatch hz) rfl (by decide) (hts _ (List.mem_cons_of_mem _ wK_30)) (va_Nw.use rfl (hK.2.1 _ (List.mem_of_getElem? (i := 11) rfl))) h1_ h2_ h3_ ?_
    refine lv_astore_n (lv' := [(3, .ref q9_), (0, .ref (ad 0)), (1, .int (iI (b))), (2, .int (iI (c)))]) hx hb dL_account_7 rfl hl (by decide) rfl (fun ls hl => ?_)
    refine lv_ldc2 (v := -10000001) hx hb hown (hts _ kL_90) dL_account_8 ?_
    exact W.widen (by first | omega | (dsimp only; omega)) (by first | omega | (dsimp only; omega)) (vx_ret (g_lret hx hb hr hW1 ⟨by rw [hs]; rfl, ad, bk, I, cX, qX, rfl, fun h => hP0 (by rw [hne] at h; exact h), fun h => hE0 (by rw [hne] at h; exact h), by rw [hne]⟩ dL_account_11 hlk))
  · obtain ⟨hz, ad2, bk2, I2, c2, q2, ha0, hPn, hEn, hpv, hpe⟩ := hp
    rw [hpe] at hW
    subst hpv
    exact W.widen (by first | omega | (dsimp only; omega)) (by first | omega | (dsimp only; omega)) (vx_ret (g_lret hx hb hr hW ⟨by rw [hz]; rfl, ad2, bk2, I2, c2, q2, ha0, hPn, hEn, rfl⟩ dL_account_6 hlk))
set_option maxHeartbeats 4000000 in
set_option maxRecDepth 100000 in
theorem c_L_accountAnew {l : Launch} {D : va_G} {cy : Nat → ClassId} {B0 x0 n : Nat} {S : ST} {G f : gF} (hn : n < 111) (hI : cI n S) (hst : l.stackTraces = false) (hG0 : G 50001 = none) (hG2 : G 50002 = none) (hG3 : G 50003 = none) (hF : wX D cy x0 S G f) (b : Int) (c : Int) (h_b : rI b) (h_c : rI c) : gX l yL_accountAnew vL_accountAnew 8 136 D cy B0 [.ref x0, .int (iI (b)), .int (iI (c))] f (fun r g_ => r = some (.long (hvL (pAnew S b c).1 (pAnew S b c).2.1 (-10000001) 0)) ∧ wX D cy x0 (pAnew S b c).2.2 G g_) (fun _ => False) 4 24 := by
  obtain ⟨ad, bk, I, cX, qX, rfl, hP0, hE0, rfl⟩ := hF
  have hn5 : n < 512 := by omega
  have ho := hI.1.1
  have hwf := ho.1
  have he : S.1 31 0 + cNF S < 19900 := by have := hI.2.2.2.1; omega
  have h26 : S.1 26 0 < 100000 := by have := hI.2.2.2.2.1; omega
  have hS2 : (pAnew S b c).2.2 = S := by unfold pAnew; split <;> rfl
  have hrm : kTc (nE (pAnew S b c).2.2) - kTc (nE S) + 4 ≤ 4 ∧ kTs (nE (pAnew S b c).2.2) - kTs (nE S) + 24 ≤ 24 := by rw [hS2]; omega
  refine g_startXH (cc := cL_accountAnew) (maxL := 4) (ret := (some .long)) (hh := [(0, 6, 7, 16)]) (by decide) rfl (Nat.le_of_ble_eq_true rfl) ?_
  intro p_ e_ s_ m_ be_ me_ co_ ls H locs K hr hlk hnm ht hK hW hl
  obtain ⟨hx, hb, hml, hown, hts⟩ := id K
  have hl : lv_has ls 4 [(0, .ref (ad 0)), (1, .int (iI (b))), (2, .int (iI (c)))] := hl
  refine lv_aload_n hx hb dL_accountAnew_0 rfl (lv_at hl 0 rfl) ?_
  refine lv_iload_n hx hb dL_accountAnew_1 rfl (lv_at hl 1 rfl) ?_
  refine lv_iload_n hx hb dL_accountAnew_2 rfl (lv_at hl 2 rfl) ?_
  refine g_xcallV (i := 100000 + 0) (As := [.int (iI (b)), .int (iI (c))]) (rest := []) K (c_X11_accountAnew b c hwf h_b h_c ho (legJ_W hI.1.2.1) he hG0 hG2 hG3 hP0 hE0 hI.1.2.2.2.1 hst) (cwV 2 hts (gd_T gL_X11_accountAnew) rfl rfl rfl (by decide +kernel) ⟨Nat.le_of_ble_eq_true rfl, Nat.le_of_ble_eq_true rfl⟩) hK hW (kW_at rfl) rfl rfl hl.1 rfl (Nat.le_of_ble_eq_true rfl) dL_accountAnew_3 ⟨by dsimp only; omega, by dsimp only; omega⟩ (fun E_ ce_ q9_ H1 locs1 hE hW1 h1_ h2_ h3_ => ?_) (fun v_ f_ H locs hp hW => ?_)
  · obtain ⟨hs, rfl⟩ := hE
    have hne : (pAnew S b c).2.2 = S := by unfold pAnew at hs ⊢; rw [if_neg (sGo_n hs (by decide))]
    refine vx_catch (own := RL) (name := "java/lang/IndexOutOfBoundsException") (E := "java/lang/IndexOutOfBoundsException") hown ([] : List ExceptionTableEntry) ⟨0, 6, 7, 16⟩ [] ht (fun z hz => nomatch hz) rfl (by decide) (hts _ (List.mem_cons_of_mem _ wK_30)) (va_Nw.use rfl (hK.2.1 _ (List.mem_of_getElem? (i := 11) rfl))) h1_ h2_ h3_ ?_
    refine lv_astore_n (lv' := [(3, .ref q9_), (0, .ref (ad 0)), (1, .int (iI (b))), (2, .int (iI (c)))]) hx hb dL_accountAnew_7 rfl hl (by decide) rfl (fun ls hl => ?_)
    refine lv_ldc2 (v := -10000001) hx hb hown (hts _ kL_90) dL_accountAnew_8 ?_
    exact W.widen (by first | omega | (dsimp only; omega)) (by first | omega | (dsimp only; omega)) (vx_ret (g_lret hx hb hr hW1 ⟨by rw [hs]; rfl, ad, bk, I, cX, qX, rfl, fun h => hP0 (by rw [hne] at h; exact h), fun h => hE0 (by rw [hne] at h; exact h), by rw [hne]⟩ dL_accountAnew_11 hlk))
  · obtain ⟨hz, ad2, bk2, I2, c2, q2, ha0, hPn, hEn, hpv, hpe⟩ := hp
    rw [hpe] at hW
    subst hpv
    exact W.widen (by first | omega | (dsimp only; omega)) (by first | omega | (dsimp only; omega)) (vx_ret (g_lret hx hb hr hW ⟨by rw [hz]; rfl, ad2, bk2, I2, c2, q2, ha0, hPn, hEn, rfl⟩ dL_accountAnew_6 hlk))
set_option maxHeartbeats 4000000 in
set_option maxRecDepth 100000 in
theorem c_L_paid {l : Launch} {D : va_G} {cy : Nat → ClassId} {B0 x0 n : Nat} {S : ST} {G f : gF} (hn : n < 111) (hI : cI n S) (hst : l.stackTraces = false) (hG0 : G 50001 = none) (hG2 : G 50002 = none) (hG3 : G 50003 = none) (hF : wX D cy x0 S G f) (b : Int) (u : Int) (c : Int) (h_b : rI b) (h_u : rI u) (h_c : rI c) : gX l yL_paid vL_paid 8 126 D cy B0 [.ref x0, .int (iI (b)), .int (iI (u)), .int (iI (c))] f (fun r g_ => r = some (.long (hvL (pPaid S b u c).1 (pPaid S b u c).2.1 (-10000001) 0)) ∧ wX D cy x0 (pPaid S b u c).2.2 G g_) (fun _ => False) 4 24 := by
  obtain ⟨ad, bk, I, cX, qX, rfl, hP0, hE0, rfl⟩ := hF
  have hn5 : n < 512 := by omega
  have ho := hI.1.1
  have hwf := ho.1
  have he : S.1 31 0 + cNF S < 19900 := by have := hI.2.2.2.1; omega
  have h26 : S.1 26 0 < 100000 := by have := hI.2.2.2.2.1; omega
  have hS2 : (pPaid S b u c).2.2 = S := by unfold pPaid; split <;> rfl
  have hrm : kTc (nE (pPaid S b u c).2.2) - kTc (nE S) + 4 ≤ 4 ∧ kTs (nE (pPaid S b u c).2.2) - kTs (nE S) + 24 ≤ 24 := by rw [hS2]; omega
  refine g_startXH (cc := cL_paid) (maxL := 5) (ret := (some .long)) (hh := [(0, 7, 8, 16)]) (by decide) rfl (Nat.le_of_ble_eq_true rfl) ?_
  intro p_ e_ s_ m_ be_ me_ co_ ls H locs K hr hlk hnm ht hK hW hl
  obtain ⟨hx, hb, hml, hown, hts⟩ := id K
  have hl : lv_has ls 5 [(0, .ref (ad 0)), (1, .int (iI (b))), (2, .int (iI (u))), (3, .int (iI (c)))] := hl
  refine lv_aload_n hx hb dL_paid_0 rfl (lv_at hl 0 rfl) ?_
  refine lv_iload_n hx hb dL_paid_1 rfl (lv_at hl 1 rfl) ?_
  refine lv_iload_n hx hb dL_paid_2 rfl (lv_at hl 2 rfl) ?_
  refine lv_iload_n hx hb dL_paid_3 rfl (lv_at hl 3 rfl) ?_
  refine g_xcallV (i := 100000 + 0) (As := [.int (iI (b)), .int (iI (u)), .int (iI (c))]) (rest := []) K (c_X11_paid b u c hwf h_b h_u h_c ho (legJ_W hI.1.2.1) he hG0 hG2 hG3 hP0 hE0 hst) (cwV 3 hts (gd_T gL_X11_paid) rfl rfl rfl (by decide +kernel) ⟨Nat.le_of_ble_eq_true rfl, Nat.le_of_ble_eq_true rfl⟩) hK hW (kW_at rfl) rfl rfl hl.1 rfl (Nat.le_of_ble_eq_true rfl) dL_paid_4 ⟨by dsimp only; omega, by dsimp only; omega⟩ (fun E_ ce_ q9_ H1 locs1 hE hW1 h1_ h2_ h3_ => ?_) (fun v_ f_ H locs hp hW => ?_)
  · obtain ⟨hs, rfl⟩ := hE
    have hne : (pPaid S b u c).2.2 = S := by unfold pPaid at hs ⊢; rw [if_neg (sGo_n hs (by decide))]
    refine vx_catch (own := RL) (name := "java/lang/IndexOutOfBoundsException") (E := "java/lang/IndexOutOfBoundsException") hown ([] : List ExceptionTableEntry) ⟨0, 7, 8, 16⟩ [] ht (fun z hz => nomatch hz) rfl (by decide) (hts _ (List.mem_cons_of_mem _ wK_30)) (va_Nw.use rfl (hK.2.1 _ (List.mem_of_getElem? (i := 11) rfl))) h1_ h2_ h3_ ?_
    refine lv_astore (lv' := [(4, .ref q9_), (0, .ref (ad 0)), (1, .int (iI (b))), (2, .int (iI (u))), (3, .int (iI (c)))]) hx hb dL_paid_8 hl (by decide) rfl (fun ls hl => ?_)
    refine lv_ldc2 (v := -10000001) hx hb hown (hts _ kL_90) dL_paid_10 ?_
    exact W.widen (by first | omega | (dsimp only; omega)) (by first | omega | (dsimp only; omega)) (vx_ret (g_lret hx hb hr hW1 ⟨by rw [hs]; rfl, ad, bk, I, cX, qX, rfl, fun h => hP0 (by rw [hne] at h; exact h), fun h => hE0 (by rw [hne] at h; exact h), by rw [hne]⟩ dL_paid_13 hlk))
  · obtain ⟨hz, ad2, bk2, I2, c2, q2, ha0, hPn, hEn, hpv, hpe⟩ := hp
    rw [hpe] at hW
    subst hpv
    exact W.widen (by first | omega | (dsimp only; omega)) (by first | omega | (dsimp only; omega)) (vx_ret (g_lret hx hb hr hW ⟨by rw [hz]; rfl, ad2, bk2, I2, c2, q2, ha0, hPn, hEn, rfl⟩ dL_paid_7 hlk))
set_option maxHeartbeats 4000000 in
set_option maxRecDepth 100000 in
theorem c_L_entryAt {l : Launch} {D : va_G} {cy : Nat → ClassId} {B0 x0 n : Nat} {S : ST} {G f : gF} (hn : n < 111) (hI : cI n S) (hst : l.stackTraces = false) (hG0 : G 50001 = none) (hG2 : G 50002 = none) (hG3 : G 50003 = none) (hF : wX D cy x0 S G f) (k : Int) (j : Int) (h_k : rI k) (h_j : rI j) : gX l yL_entryAt vL_entryAt 8 132 D cy B0 [.ref x0, .int (iI (k)), .int (iI (j))] f (fun r g_ => r = some (.long (hvL (pEnt S k j).1 (pEnt S k j).2.1 (-10000001) (-10000002))) ∧ wX D cy x0 (pEnt S k j).2.2 G g_) (fun _ => False) 4 24 := by
  obtain ⟨ad, bk, I, cX, qX, rfl, hP0, hE0, rfl⟩ := hF
  have hn5 : n < 512 := by omega
  have ho := hI.1.1
  have hwf := ho.1
  have he : S.1 31 0 + cNF S < 19900 := by have := hI.2.2.2.1; omega
  have h26 : S.1 26 0 < 100000 := by have := hI.2.2.2.2.1; omega
  have hS2 : (pEnt S k j).2.2 = S := by unfold pEnt; split <;> rfl
  have hrm : kTc (nE (pEnt S k j).2.2) - kTc (nE S) + 4 ≤ 4 ∧ kTs (nE (pEnt S k j).2.2) - kTs (nE S) + 24 ≤ 24 := by rw [hS2]; omega
  refine g_startXH (cc := cL_entryAt) (maxL := 4) (ret := (some .long)) (hh := [(0, 6, 7, 16), (0, 6, 12, 19)]) (by decide) rfl (Nat.le_of_ble_eq_true rfl) ?_
  intro p_ e_ s_ m_ be_ me_ co_ ls H locs K hr hlk hnm ht hK hW hl
  obtain ⟨hx, hb, hml, hown, hts⟩ := id K
  have hl : lv_has ls 4 [(0, .ref (ad 0)), (1, .int (iI (k))), (2, .int (iI (j)))] := hl
  refine lv_aload_n hx hb dL_entryAt_0 rfl (lv_at hl 0 rfl) ?_
  refine lv_iload_n hx hb dL_entryAt_1 rfl (lv_at hl 1 rfl) ?_
  refine lv_iload_n hx hb dL_entryAt_2 rfl (lv_at hl 2 rfl) ?_
  refine g_xcallV (i := 100000 + 0) (As := [.int (iI (k)), .int (iI (j))]) (rest := []) K (c_X11_entryAt k j hwf h_k h_j ho (legJ_W hI.1.2.1) he hG0 hG2 hG3 hP0 hE0 hI.1.2.2.2.1 hst) (cwV 2 hts (gd_T gL_X11_entryAt) rfl rfl rfl (by decide +kernel) ⟨Nat.le_of_ble_eq_true rfl, Nat.le_of_ble_eq_true rfl⟩) hK hW (kW_at rfl) rfl rfl hl.1 rfl (Nat.le_of_ble_eq_true rfl) dL_entryAt_3 ⟨by dsimp only; omega, by dsimp only; omega⟩ (fun E_ ce_ q9_ H1 locs1 hE hW1 h1_ h2_ h3_ => ?_) (fun v_ f_ H locs hp hW => ?_)
  · rcases hE with ⟨hs, rfl⟩ | ⟨hs, rfl⟩
    · have hne : (pEnt S k j).2.2 = S := by unfold pEnt at hs ⊢; rw [if_neg (sGo_n hs (by decide))]
      refine vx_catch (own := RL) (name := "java/lang/IndexOutOfBoundsException") (E := "java/lang/IndexOutOfBoundsException") hown ([] : List ExceptionTableEntry) ⟨0, 6, 7, 16⟩ [⟨0, 6, 12, 19⟩] ht (fun z hz => nomatch hz) rfl (by decide) (hts _ (List.mem_cons_of_mem _ wK_30)) (va_Nw.use rfl (hK.2.1 _ (List.mem_of_getElem? (i := 11) rfl))) h1_ h2_ h3_ ?_
      refine lv_astore_n (lv' := [(3, .ref q9_), (0, .ref (ad 0)), (1, .int (iI (k))), (2, .int (iI (j)))]) hx hb dL_entryAt_7 rfl hl (by decide) rfl (fun ls hl => ?_)
      refine lv_ldc2 (v := -10000001) hx hb hown (hts _ kL_90) dL_entryAt_8 ?_
      exact W.widen (by first | omega | (dsimp only; omega)) (by first | omega | (dsimp only; omega)) (vx_ret (g_lret hx hb hr hW1 ⟨by rw [hs]; rfl, ad, bk, I, cX, qX, rfl, fun h => hP0 (by rw [hne] at h; exact h), fun h => hE0 (by rw [hne] at h; exact h), by rw [hne]⟩ dL_entryAt_11 hlk))
    · have hne : (pEnt S k j).2.2 = S := by unfold pEnt at hs ⊢; rw [if_neg (sGo_n hs (by decide))]
      refine vx_catch (own := RL) (name := "java/lang/IllegalArgumentException") (E := "java/lang/IllegalArgumentException") hown ([⟨0, 6, 7, 16⟩] : List ExceptionTableEntry) ⟨0, 6, 12, 19⟩ [] ht (fun z hz => by rw [List.mem_singleton] at hz; subst hz; exact Or.inr ⟨by decide, _, hts _ (List.mem_cons_of_mem _ wK_30), hK.2.2.2.2.2.2.2 _ (List.mem_of_getElem? (l := gXc) (i := 0) rfl)⟩) rfl (by decide) (hts _ (List.mem_cons_of_mem _ wK_31)) (va_Nw.use rfl (hK.2.1 _ (List.mem_of_getElem? (i := 12) rfl))) h1_ h2_ h3_ ?_
      refine lv_astore_n (lv' := [(3, .ref q9_), (0, .ref (ad 0)), (1, .int (iI (k))), (2, .int (iI (j)))]) hx hb dL_entryAt_12 rfl hl (by decide) rfl (fun ls hl => ?_)
      refine lv_ldc2 (v := -10000002) hx hb hown (hts _ kL_92) dL_entryAt_13 ?_
      exact W.widen (by first | omega | (dsimp only; omega)) (by first | omega | (dsimp only; omega)) (vx_ret (g_lret hx hb hr hW1 ⟨by rw [hs]; rfl, ad, bk, I, cX, qX, rfl, fun h => hP0 (by rw [hne] at h; exact h), fun h => hE0 (by rw [hne] at h; exact h), by rw [hne]⟩ dL_entryAt_16 hlk))
  · obtain ⟨hz, ad2, bk2, I2, c2, q2, ha0, hPn, hEn, hpv, hpe⟩ := hp
    rw [hpe] at hW
    subst hpv
    exact W.widen (by first | omega | (dsimp only; omega)) (by first | omega | (dsimp only; omega)) (vx_ret (g_lret hx hb hr hW ⟨by rw [hz]; rfl, ad2, bk2, I2, c2, q2, ha0, hPn, hEn, rfl⟩ dL_entryAt_6 hlk))
theorem x_doubles {l : Launch} {D : va_G} {cy : Nat → ClassId} {B0 x0 : Nat} {S : ST} {G f : gF} (hwf : wf S) (hF : wX D cy x0 S G f) : gM l yX11_doubles vX11_doubles 0 0 D cy B0 [.ref x0] f (fun r g_ => r = some (.int (iI (S.1 26 0))) ∧ g_ = f) 0 0 := by
  obtain ⟨ad, bk, I, cX, qX, rfl, hP0, hE0, rfl⟩ := hF
  exact c_X11_doubles hwf
theorem x_today {l : Launch} {D : va_G} {cy : Nat → ClassId} {B0 x0 : Nat} {S : ST} {G f : gF} (hwf : wf S) (hF : wX D cy x0 S G f) : gM l yX11_today vX11_today 0 0 D cy B0 [.ref x0] f (fun r g_ => r = some (.int (iI (S.1 0 0))) ∧ g_ = f) 0 0 := by
  obtain ⟨ad, bk, I, cX, qX, rfl, hP0, hE0, rfl⟩ := hF
  exact c_X11_today hwf
theorem x_payments {l : Launch} {D : va_G} {cy : Nat → ClassId} {B0 x0 : Nat} {S : ST} {G f : gF} (hwf : wf S) (hF : wX D cy x0 S G f) : gM l yX11_payments vX11_payments 2 40 D cy B0 [.ref x0] f (fun r g_ => r = some (.int (iI (S.1 8 0))) ∧ g_ = f) 0 0 := by
  obtain ⟨ad, bk, I, cX, qX, rfl, hP0, hE0, rfl⟩ := hF
  exact c_X11_payments hwf
theorem x_entries {l : Launch} {D : va_G} {cy : Nat → ClassId} {B0 x0 : Nat} {S : ST} {G f : gF} (hwf : wf S) (hF : wX D cy x0 S G f) : gM l yX11_entries vX11_entries 2 40 D cy B0 [.ref x0] f (fun r g_ => r = some (.int (iI (S.1 31 0))) ∧ g_ = f) 0 0 := by
  obtain ⟨ad, bk, I, cX, qX, rfl, hP0, hE0, rfl⟩ := hF
  exact c_X11_entries hwf
