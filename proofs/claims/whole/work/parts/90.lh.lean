theorem updL_0 {v : Nat → Int64} {x : Int64} : vp_updL v (iI 0).toNatClampNeg x 0 = x := by
  have h : (iI 0).toNatClampNeg = 0 := by decide
  rw [h]
  simp [vp_updL]
set_option maxHeartbeats 4000000 in
set_option maxRecDepth 100000 in
theorem c_L_fund {l : Launch} {D : va_G} {cy : Nat → ClassId} {B0 : Nat} {ad bk : Nat → Nat} {S : ST} {I : Int → Bool} {cX qX : Int → Int64} {G : gF} (b : Int) (c : Int) (v : Int) (hwf : wf S) (h_b : rI b) (h_c : rI c) (h_v : rI v) (ho : okS S) (hlw : legW S) (he : S.1 31 0 + cNF S < 19900) (hG0 : G 50001 = none) (hG2 : G 50002 = none) (hG3 : G 50003 = none) (hP0 : nP S = 0 → ad 11 = D.1 21) (hE0 : nE S = 0 → bk 10 = D.1 21)  (hst : l.stackTraces = false) {o : Nat} {v0 : Nat → Int64} (hGo : G 99999 = some (o, outE cy v0)) : gX l yL_fund vL_fund 14 320 D cy B0 [.ref (ad 0), .int (iI (b)), .int (iI (c)), .int (iI (v)), .ref o] (kW cy ad bk S (I, cX, qX) G) (hpQ D cy ad (pFund S b c v).2.2 G o (pFund S b c v).1 ((pFund S b c v).2.1)) (fun _ => False) (kTc (nE (pFund S b c v).2.2) - kTc (nE S) + 16) (kTs (nE (pFund S b c v).2.2) - kTs (nE S) + 400) := by
  refine g_startXH (cc := cL_fund) (maxL := 6) (ret := (some .int)) (hh := [(0, 11, 14, 13), (0, 11, 18, 15)]) (by decide) rfl (Nat.le_of_ble_eq_true rfl) ?_
  intro p_ e_ s_ m_ be_ me_ co_ ls H locs K hr hlk hnm ht hK hW hl
  obtain ⟨hx, hb, hml, hown, hts⟩ := id K
  have hl : lv_has ls 6 [(0, .ref (ad 0)), (1, .int (iI (b))), (2, .int (iI (c))), (3, .int (iI (v))), (4, .ref o)] := hl
  refine lv_aload hx hb dL_fund_0 (lv_at hl 4 rfl) ?_
  refine xi_iconst hx hb dL_fund_2 ?_
  refine lv_aload_n hx hb dL_fund_3 rfl (lv_at hl 0 rfl) ?_
  refine lv_iload_n hx hb dL_fund_4 rfl (lv_at hl 1 rfl) ?_
  refine lv_iload_n hx hb dL_fund_5 rfl (lv_at hl 2 rfl) ?_
  refine lv_iload_n hx hb dL_fund_6 rfl (lv_at hl 3 rfl) ?_
  refine g_xcallV (i := 100000 + 0) (As := [.int (iI (b)), .int (iI (c)), .int (iI (v))]) (rest := [.int (iI (0)), .ref o]) K (c_X11_fund b c v hwf h_b h_c h_v ho hlw he hG0 hG2 hG3 hP0 hE0 hst) (cwV 3 hts (gd_T gL_X11_fund) rfl rfl rfl (by decide +kernel) ⟨Nat.le_of_ble_eq_true rfl, Nat.le_of_ble_eq_true rfl⟩) hK hW (kW_at rfl) rfl rfl hl.1 rfl (Nat.le_of_ble_eq_true rfl) dL_fund_7 ⟨Nat.le_of_eq (Nat.zero_add _), Nat.le_of_eq (Nat.zero_add _)⟩ (fun E_ ce_ q9_ H1 locs1 hE hW1 h1_ h2_ h3_ => ?_) (fun v_ f_ H locs hp hW => ?_)
  · rcases hE with ⟨hs, rfl⟩ | ⟨hs, rfl⟩
    · have hne : (pFund S b c v).2.2 = S := by unfold pFund at hs ⊢; rw [if_neg (sGo_n hs (by decide))]
      refine vx_catch (own := RL) (name := "java/lang/IndexOutOfBoundsException") (E := "java/lang/IndexOutOfBoundsException") hown ([] : List ExceptionTableEntry) ⟨0, 11, 14, 13⟩ [⟨0, 11, 18, 15⟩] ht (fun z hz => nomatch hz) rfl (by decide) (hts _ (List.mem_cons_of_mem _ wK_14)) (va_Nw.use rfl (hK.2.1 _ (List.mem_of_getElem? (i := 11) rfl))) h1_ h2_ h3_ ?_
      refine lv_astore (lv' := [(5, .ref q9_), (0, .ref (ad 0)), (1, .int (iI (b))), (2, .int (iI (c))), (3, .int (iI (v))), (4, .ref o)]) hx hb dL_fund_14 hl (by decide) rfl (fun ls hl => ?_)
      refine xi_iconst hx hb dL_fund_16 ?_
      exact W.widen (by first | omega | (dsimp only; omega)) (by first | omega | (dsimp only; omega)) (vx_ret (g_iret hx hb hr hW1 ⟨by rw [hs], ad, bk, I, cX, qX, v0, rfl, fun h => hP0 (by rw [hne] at h; exact h), fun h => hE0 (by rw [hne] at h; exact h), fun h => absurd (hs.symm.trans h) (by decide), by rw [hne, gup_id hGo]⟩ dL_fund_17 hlk))
    · have hne : (pFund S b c v).2.2 = S := by unfold pFund at hs ⊢; rw [if_neg (sGo_n hs (by decide))]
      refine vx_catch (own := RL) (name := "java/lang/IllegalArgumentException") (E := "java/lang/IllegalArgumentException") hown ([⟨0, 11, 14, 13⟩] : List ExceptionTableEntry) ⟨0, 11, 18, 15⟩ [] ht (fun z hz => by rw [List.mem_singleton] at hz; subst hz; exact Or.inr ⟨by decide, _, hts _ (List.mem_cons_of_mem _ wK_14), hK.2.2.2.2.2.2.2 _ (List.mem_of_getElem? (l := gXc) (i := 0) rfl)⟩) rfl (by decide) (hts _ (List.mem_cons_of_mem _ wK_15)) (va_Nw.use rfl (hK.2.1 _ (List.mem_of_getElem? (i := 12) rfl))) h1_ h2_ h3_ ?_
      refine lv_astore (lv' := [(5, .ref q9_), (0, .ref (ad 0)), (1, .int (iI (b))), (2, .int (iI (c))), (3, .int (iI (v))), (4, .ref o)]) hx hb dL_fund_18 hl (by decide) rfl (fun ls hl => ?_)
      refine xi_iconst hx hb dL_fund_20 ?_
      exact W.widen (by first | omega | (dsimp only; omega)) (by first | omega | (dsimp only; omega)) (vx_ret (g_iret hx hb hr hW1 ⟨by rw [hs], ad, bk, I, cX, qX, v0, rfl, fun h => hP0 (by rw [hne] at h; exact h), fun h => hE0 (by rw [hne] at h; exact h), fun h => absurd (hs.symm.trans h) (by decide), by rw [hne, gup_id hGo]⟩ dL_fund_21 hlk))
  · obtain ⟨hz, ad2, bk2, I2, c2, q2, ha0, hPn, hEn, hpv, hpe⟩ := hp
    rw [hpe] at hW
    subst hpv
    refine g_last hx hb hK hW 99999 (show kW cy ad2 bk2 (pFund S b c v).2.2 (I2, c2, q2) G 99999 = _ from hGo) (j := iI 0) (x := (pFund S b c v).2.1) (iI_in (by decide) (by decide) (by decide)) dL_fund_10 (fun H locs hW => ?_)
    rw [kW_gup (by decide)] at hW
    refine lv_goto (tgt := 22) hx hb dL_fund_11 (by decide) ?_
    refine xi_iconst hx hb dL_fund_22 ?_
    exact W.widen (by first | omega | (dsimp only; omega)) (by first | omega | (dsimp only; omega)) (vx_ret (g_iret hx hb hr hW ⟨by rw [hz], ad2, bk2, I2, c2, q2, _, ha0, hPn, hEn, fun _ => updL_0, rfl⟩ dL_fund_23 hlk))
set_option maxHeartbeats 4000000 in
set_option maxRecDepth 100000 in
theorem c_L_line {l : Launch} {D : va_G} {cy : Nat → ClassId} {B0 : Nat} {ad bk : Nat → Nat} {S : ST} {I : Int → Bool} {cX qX : Int → Int64} {G : gF} (b : Int) (c : Int) (v : Int) (hwf : wf S) (h_b : rI b) (h_c : rI c) (h_v : rI v) (ho : okS S) (hlw : legW S) (he : S.1 31 0 + cNF S < 19900) (hG0 : G 50001 = none) (hG2 : G 50002 = none) (hG3 : G 50003 = none) (hP0 : nP S = 0 → ad 11 = D.1 21) (hE0 : nE S = 0 → bk 10 = D.1 21)  (hst : l.stackTraces = false) {o : Nat} {v0 : Nat → Int64} (hGo : G 99999 = some (o, outE cy v0)) : gX l yL_line vL_line 14 321 D cy B0 [.ref (ad 0), .int (iI (b)), .int (iI (c)), .int (iI (v)), .ref o] (kW cy ad bk S (I, cX, qX) G) (hpQ D cy ad (pLine S b c v).2.2 G o (pLine S b c v).1 ((iI (pLine S b c v).2.1).toInt64)) (fun _ => False) (kTc (nE (pLine S b c v).2.2) - kTc (nE S) + 16) (kTs (nE (pLine S b c v).2.2) - kTs (nE S) + 400) := by
  refine g_startXH (cc := cL_line) (maxL := 6) (ret := (some .int)) (hh := [(0, 12, 15, 13), (0, 12, 19, 15)]) (by decide) rfl (Nat.le_of_ble_eq_true rfl) ?_
  intro p_ e_ s_ m_ be_ me_ co_ ls H locs K hr hlk hnm ht hK hW hl
  obtain ⟨hx, hb, hml, hown, hts⟩ := id K
  have hl : lv_has ls 6 [(0, .ref (ad 0)), (1, .int (iI (b))), (2, .int (iI (c))), (3, .int (iI (v))), (4, .ref o)] := hl
  refine lv_aload hx hb dL_line_0 (lv_at hl 4 rfl) ?_
  refine xi_iconst hx hb dL_line_2 ?_
  refine lv_aload_n hx hb dL_line_3 rfl (lv_at hl 0 rfl) ?_
  refine lv_iload_n hx hb dL_line_4 rfl (lv_at hl 1 rfl) ?_
  refine lv_iload_n hx hb dL_line_5 rfl (lv_at hl 2 rfl) ?_
  refine lv_iload_n hx hb dL_line_6 rfl (lv_at hl 3 rfl) ?_
  refine g_xcallV (i := 100000 + 0) (As := [.int (iI (b)), .int (iI (c)), .int (iI (v))]) (rest := [.int (iI (0)), .ref o]) K (c_X11_line b c v hwf h_b h_c h_v ho hlw he hG0 hG2 hG3 hP0 hE0 hst) (cwV 3 hts (gd_T gL_X11_line) rfl rfl rfl (by decide +kernel) ⟨Nat.le_of_ble_eq_true rfl, Nat.le_of_ble_eq_true rfl⟩) hK hW (kW_at rfl) rfl rfl hl.1 rfl (Nat.le_of_ble_eq_true rfl) dL_line_7 ⟨Nat.le_of_eq (Nat.zero_add _), Nat.le_of_eq (Nat.zero_add _)⟩ (fun E_ ce_ q9_ H1 locs1 hE hW1 h1_ h2_ h3_ => ?_) (fun v_ f_ H locs hp hW => ?_)
  · rcases hE with ⟨hs, rfl⟩ | ⟨hs, rfl⟩
    · have hne : (pLine S b c v).2.2 = S := by unfold pLine at hs ⊢; rw [if_neg (sGo_n hs (by decide))]
      refine vx_catch (own := RL) (name := "java/lang/IndexOutOfBoundsException") (E := "java/lang/IndexOutOfBoundsException") hown ([] : List ExceptionTableEntry) ⟨0, 12, 15, 13⟩ [⟨0, 12, 19, 15⟩] ht (fun z hz => nomatch hz) rfl (by decide) (hts _ (List.mem_cons_of_mem _ wK_14)) (va_Nw.use rfl (hK.2.1 _ (List.mem_of_getElem? (i := 11) rfl))) h1_ h2_ h3_ ?_
      refine lv_astore (lv' := [(5, .ref q9_), (0, .ref (ad 0)), (1, .int (iI (b))), (2, .int (iI (c))), (3, .int (iI (v))), (4, .ref o)]) hx hb dL_line_15 hl (by decide) rfl (fun ls hl => ?_)
      refine xi_iconst hx hb dL_line_17 ?_
      exact W.widen (by first | omega | (dsimp only; omega)) (by first | omega | (dsimp only; omega)) (vx_ret (g_iret hx hb hr hW1 ⟨by rw [hs], ad, bk, I, cX, qX, v0, rfl, fun h => hP0 (by rw [hne] at h; exact h), fun h => hE0 (by rw [hne] at h; exact h), fun h => absurd (hs.symm.trans h) (by decide), by rw [hne, gup_id hGo]⟩ dL_line_18 hlk))
    · have hne : (pLine S b c v).2.2 = S := by unfold pLine at hs ⊢; rw [if_neg (sGo_n hs (by decide))]
      refine vx_catch (own := RL) (name := "java/lang/IllegalArgumentException") (E := "java/lang/IllegalArgumentException") hown ([⟨0, 12, 15, 13⟩] : List ExceptionTableEntry) ⟨0, 12, 19, 15⟩ [] ht (fun z hz => by rw [List.mem_singleton] at hz; subst hz; exact Or.inr ⟨by decide, _, hts _ (List.mem_cons_of_mem _ wK_14), hK.2.2.2.2.2.2.2 _ (List.mem_of_getElem? (l := gXc) (i := 0) rfl)⟩) rfl (by decide) (hts _ (List.mem_cons_of_mem _ wK_15)) (va_Nw.use rfl (hK.2.1 _ (List.mem_of_getElem? (i := 12) rfl))) h1_ h2_ h3_ ?_
      refine lv_astore (lv' := [(5, .ref q9_), (0, .ref (ad 0)), (1, .int (iI (b))), (2, .int (iI (c))), (3, .int (iI (v))), (4, .ref o)]) hx hb dL_line_19 hl (by decide) rfl (fun ls hl => ?_)
      refine xi_iconst hx hb dL_line_21 ?_
      exact W.widen (by first | omega | (dsimp only; omega)) (by first | omega | (dsimp only; omega)) (vx_ret (g_iret hx hb hr hW1 ⟨by rw [hs], ad, bk, I, cX, qX, v0, rfl, fun h => hP0 (by rw [hne] at h; exact h), fun h => hE0 (by rw [hne] at h; exact h), fun h => absurd (hs.symm.trans h) (by decide), by rw [hne, gup_id hGo]⟩ dL_line_22 hlk))
  · obtain ⟨hz, ad2, bk2, I2, c2, q2, ha0, hPn, hEn, hpv, hpe⟩ := hp
    rw [hpe] at hW
    subst hpv
    refine lv_i2l hx hb dL_line_10 rfl ?_
    refine g_last hx hb hK hW 99999 (show kW cy ad2 bk2 (pLine S b c v).2.2 (I2, c2, q2) G 99999 = _ from hGo) (j := iI 0) (x := (iI (pLine S b c v).2.1).toInt64) (iI_in (by decide) (by decide) (by decide)) dL_line_11 (fun H locs hW => ?_)
    rw [kW_gup (by decide)] at hW
    refine lv_goto (tgt := 23) hx hb dL_line_12 (by decide) ?_
    refine xi_iconst hx hb dL_line_23 ?_
    exact W.widen (by first | omega | (dsimp only; omega)) (by first | omega | (dsimp only; omega)) (vx_ret (g_iret hx hb hr hW ⟨by rw [hz], ad2, bk2, I2, c2, q2, _, ha0, hPn, hEn, fun _ => updL_0, rfl⟩ dL_line_24 hlk))
set_option maxHeartbeats 4000000 in
set_option maxRecDepth 100000 in
theorem c_L_limit {l : Launch} {D : va_G} {cy : Nat → ClassId} {B0 : Nat} {ad bk : Nat → Nat} {S : ST} {I : Int → Bool} {cX qX : Int → Int64} {G : gF} (b : Int) (u : Int) (c : Int) (v : Int) (hwf : wf S) (h_b : rI b) (h_u : rI u) (h_c : rI c) (h_v : rI v) (ho : okS S) (hlw : legW S) (he : S.1 31 0 + cNF S < 19900) (hG0 : G 50001 = none) (hG2 : G 50002 = none) (hG3 : G 50003 = none) (hP0 : nP S = 0 → ad 11 = D.1 21) (hE0 : nE S = 0 → bk 10 = D.1 21)  (hst : l.stackTraces = false) {o : Nat} {v0 : Nat → Int64} (hGo : G 99999 = some (o, outE cy v0)) : gX l yL_limit vL_limit 14 322 D cy B0 [.ref (ad 0), .int (iI (b)), .int (iI (u)), .int (iI (c)), .int (iI (v)), .ref o] (kW cy ad bk S (I, cX, qX) G) (hpQ D cy ad (pLimit S b u c v).2.2 G o (pLimit S b u c v).1 ((iI (pLimit S b u c v).2.1).toInt64)) (fun _ => False) (kTc (nE (pLimit S b u c v).2.2) - kTc (nE S) + 16) (kTs (nE (pLimit S b u c v).2.2) - kTs (nE S) + 400) := by
  refine g_startXH (cc := cL_limit) (maxL := 7) (ret := (some .int)) (hh := [(0, 14, 17, 13), (0, 14, 21, 15)]) (by decide) rfl (Nat.le_of_ble_eq_true rfl) ?_
  intro p_ e_ s_ m_ be_ me_ co_ ls H locs K hr hlk hnm ht hK hW hl
  obtain ⟨hx, hb, hml, hown, hts⟩ := id K
  have hl : lv_has ls 7 [(0, .ref (ad 0)), (1, .int (iI (b))), (2, .int (iI (u))), (3, .int (iI (c))), (4, .int (iI (v))), (5, .ref o)] := hl
  refine lv_aload hx hb dL_limit_0 (lv_at hl 5 rfl) ?_
  refine xi_iconst hx hb dL_limit_2 ?_
  refine lv_aload_n hx hb dL_limit_3 rfl (lv_at hl 0 rfl) ?_
  refine lv_iload_n hx hb dL_limit_4 rfl (lv_at hl 1 rfl) ?_
  refine lv_iload_n hx hb dL_limit_5 rfl (lv_at hl 2 rfl) ?_
  refine lv_iload_n hx hb dL_limit_6 rfl (lv_at hl 3 rfl) ?_
  refine lv_iload hx hb dL_limit_7 (lv_at hl 4 rfl) ?_
  refine g_xcallV (i := 100000 + 0) (As := [.int (iI (b)), .int (iI (u)), .int (iI (c)), .int (iI (v))]) (rest := [.int (iI (0)), .ref o]) K (c_X11_limit b u c v hwf h_b h_u h_c h_v ho hlw he hG0 hG2 hG3 hP0 hE0 hst) (cwV 4 hts (gd_T gL_X11_limit) rfl rfl rfl (by decide +kernel) ⟨Nat.le_of_ble_eq_true rfl, Nat.le_of_ble_eq_true rfl⟩) hK hW (kW_at rfl) rfl rfl hl.1 rfl (Nat.le_of_ble_eq_true rfl) dL_limit_9 ⟨Nat.le_of_eq (Nat.zero_add _), Nat.le_of_eq (Nat.zero_add _)⟩ (fun E_ ce_ q9_ H1 locs1 hE hW1 h1_ h2_ h3_ => ?_) (fun v_ f_ H locs hp hW => ?_)
  · rcases hE with ⟨hs, rfl⟩ | ⟨hs, rfl⟩
    · have hne : (pLimit S b u c v).2.2 = S := by unfold pLimit at hs ⊢; rw [if_neg (sGo_n hs (by decide))]
      refine vx_catch (own := RL) (name := "java/lang/IndexOutOfBoundsException") (E := "java/lang/IndexOutOfBoundsException") hown ([] : List ExceptionTableEntry) ⟨0, 14, 17, 13⟩ [⟨0, 14, 21, 15⟩] ht (fun z hz => nomatch hz) rfl (by decide) (hts _ (List.mem_cons_of_mem _ wK_14)) (va_Nw.use rfl (hK.2.1 _ (List.mem_of_getElem? (i := 11) rfl))) h1_ h2_ h3_ ?_
      refine lv_astore (lv' := [(6, .ref q9_), (0, .ref (ad 0)), (1, .int (iI (b))), (2, .int (iI (u))), (3, .int (iI (c))), (4, .int (iI (v))), (5, .ref o)]) hx hb dL_limit_17 hl (by decide) rfl (fun ls hl => ?_)
      refine xi_iconst hx hb dL_limit_19 ?_
      exact W.widen (by first | omega | (dsimp only; omega)) (by first | omega | (dsimp only; omega)) (vx_ret (g_iret hx hb hr hW1 ⟨by rw [hs], ad, bk, I, cX, qX, v0, rfl, fun h => hP0 (by rw [hne] at h; exact h), fun h => hE0 (by rw [hne] at h; exact h), fun h => absurd (hs.symm.trans h) (by decide), by rw [hne, gup_id hGo]⟩ dL_limit_20 hlk))
    · have hne : (pLimit S b u c v).2.2 = S := by unfold pLimit at hs ⊢; rw [if_neg (sGo_n hs (by decide))]
      refine vx_catch (own := RL) (name := "java/lang/IllegalArgumentException") (E := "java/lang/IllegalArgumentException") hown ([⟨0, 14, 17, 13⟩] : List ExceptionTableEntry) ⟨0, 14, 21, 15⟩ [] ht (fun z hz => by rw [List.mem_singleton] at hz; subst hz; exact Or.inr ⟨by decide, _, hts _ (List.mem_cons_of_mem _ wK_14), hK.2.2.2.2.2.2.2 _ (List.mem_of_getElem? (l := gXc) (i := 0) rfl)⟩) rfl (by decide) (hts _ (List.mem_cons_of_mem _ wK_15)) (va_Nw.use rfl (hK.2.1 _ (List.mem_of_getElem? (i := 12) rfl))) h1_ h2_ h3_ ?_
      refine lv_astore (lv' := [(6, .ref q9_), (0, .ref (ad 0)), (1, .int (iI (b))), (2, .int (iI (u))), (3, .int (iI (c))), (4, .int (iI (v))), (5, .ref o)]) hx hb dL_limit_21 hl (by decide) rfl (fun ls hl => ?_)
      refine xi_iconst hx hb dL_limit_23 ?_
      exact W.widen (by first | omega | (dsimp only; omega)) (by first | omega | (dsimp only; omega)) (vx_ret (g_iret hx hb hr hW1 ⟨by rw [hs], ad, bk, I, cX, qX, v0, rfl, fun h => hP0 (by rw [hne] at h; exact h), fun h => hE0 (by rw [hne] at h; exact h), fun h => absurd (hs.symm.trans h) (by decide), by rw [hne, gup_id hGo]⟩ dL_limit_24 hlk))
  · obtain ⟨hz, ad2, bk2, I2, c2, q2, ha0, hPn, hEn, hpv, hpe⟩ := hp
    rw [hpe] at hW
    subst hpv
    refine lv_i2l hx hb dL_limit_12 rfl ?_
    refine g_last hx hb hK hW 99999 (show kW cy ad2 bk2 (pLimit S b u c v).2.2 (I2, c2, q2) G 99999 = _ from hGo) (j := iI 0) (x := (iI (pLimit S b u c v).2.1).toInt64) (iI_in (by decide) (by decide) (by decide)) dL_limit_13 (fun H locs hW => ?_)
    rw [kW_gup (by decide)] at hW
    refine lv_goto (tgt := 25) hx hb dL_limit_14 (by decide) ?_
    refine xi_iconst hx hb dL_limit_25 ?_
    exact W.widen (by first | omega | (dsimp only; omega)) (by first | omega | (dsimp only; omega)) (vx_ret (g_iret hx hb hr hW ⟨by rw [hz], ad2, bk2, I2, c2, q2, _, ha0, hPn, hEn, fun _ => updL_0, rfl⟩ dL_limit_26 hlk))
set_option maxHeartbeats 4000000 in
set_option maxRecDepth 100000 in
theorem c_L_out {l : Launch} {D : va_G} {cy : Nat → ClassId} {B0 : Nat} {ad bk : Nat → Nat} {S : ST} {I : Int → Bool} {cX qX : Int → Int64} {G : gF} (b : Int) (is : Bool) (hwf : wf S) (h_b : rI b) (ho : okS S) (hlw : legW S) (he : S.1 31 0 + cNF S < 19900) (hG0 : G 50001 = none) (hG2 : G 50002 = none) (hG3 : G 50003 = none) (hP0 : nP S = 0 → ad 11 = D.1 21) (hE0 : nE S = 0 → bk 10 = D.1 21)  (hst : l.stackTraces = false) {o : Nat} {v0 : Nat → Int64} (hGo : G 99999 = some (o, outE cy v0)) : gX l yL_out vL_out 14 320 D cy B0 [.ref (ad 0), .int (iI (b)), .int (iI (bI (is))), .ref o] (kW cy ad bk S (I, cX, qX) G) (hpQ D cy ad (pOut S b is).2.2 G o (pOut S b is).1 ((if (iI (pOut S b is).2.1) = 0 then 0 else 1))) (fun _ => False) (kTc (nE (pOut S b is).2.2) - kTc (nE S) + 16) (kTs (nE (pOut S b is).2.2) - kTs (nE S) + 400) := by
  refine g_startXH (cc := cL_out) (maxL := 5) (ret := (some .int)) (hh := [(0, 17, 20, 13)]) (by decide) rfl (Nat.le_of_ble_eq_true rfl) ?_
  intro p_ e_ s_ m_ be_ me_ co_ ls H locs K hr hlk hnm ht hK hW hl
  obtain ⟨hx, hb, hml, hown, hts⟩ := id K
  have hl : lv_has ls 5 [(0, .ref (ad 0)), (1, .int (iI (b))), (2, .int (iI (bI (is)))), (3, .ref o)] := hl
  refine lv_aload_n hx hb dL_out_0 rfl (lv_at hl 3 rfl) ?_
  refine xi_iconst hx hb dL_out_1 ?_
  refine lv_aload_n hx hb dL_out_2 rfl (lv_at hl 0 rfl) ?_
  refine lv_iload_n hx hb dL_out_3 rfl (lv_at hl 1 rfl) ?_
  refine lv_iload_n hx hb dL_out_4 rfl (lv_at hl 2 rfl) ?_
  refine g_xcallV (i := 100000 + 0) (As := [.int (iI (b)), .int (iI (bI (is)))]) (rest := [.int (iI (0)), .ref o]) K (c_X11_out b is hwf h_b ho hlw he hG0 hG2 hG3 hP0 hE0 hst) (cwV 2 hts (gd_T gL_X11_out) rfl rfl rfl (by decide +kernel) ⟨Nat.le_of_ble_eq_true rfl, Nat.le_of_ble_eq_true rfl⟩) hK hW (kW_at rfl) rfl rfl hl.1 rfl (Nat.le_of_ble_eq_true rfl) dL_out_5 ⟨Nat.le_of_eq (Nat.zero_add _), Nat.le_of_eq (Nat.zero_add _)⟩ (fun E_ ce_ q9_ H1 locs1 hE hW1 h1_ h2_ h3_ => ?_) (fun v_ f_ H locs hp hW => ?_)
  · obtain ⟨hs, rfl⟩ := hE
    have hne : (pOut S b is).2.2 = S := by unfold pOut at hs ⊢; rw [if_neg (sGo_n hs (by decide))]
    refine vx_catch (own := RL) (name := "java/lang/IndexOutOfBoundsException") (E := "java/lang/IndexOutOfBoundsException") hown ([] : List ExceptionTableEntry) ⟨0, 17, 20, 13⟩ [] ht (fun z hz => nomatch hz) rfl (by decide) (hts _ (List.mem_cons_of_mem _ wK_14)) (va_Nw.use rfl (hK.2.1 _ (List.mem_of_getElem? (i := 11) rfl))) h1_ h2_ h3_ ?_
    refine lv_astore (lv' := [(4, .ref q9_), (0, .ref (ad 0)), (1, .int (iI (b))), (2, .int (iI (bI (is)))), (3, .ref o)]) hx hb dL_out_20 hl (by decide) rfl (fun ls hl => ?_)
    refine xi_iconst hx hb dL_out_22 ?_
    exact W.widen (by first | omega | (dsimp only; omega)) (by first | omega | (dsimp only; omega)) (vx_ret (g_iret hx hb hr hW1 ⟨by rw [hs], ad, bk, I, cX, qX, v0, rfl, fun h => hP0 (by rw [hne] at h; exact h), fun h => hE0 (by rw [hne] at h; exact h), fun h => absurd (hs.symm.trans h) (by decide), by rw [hne, gup_id hGo]⟩ dL_out_23 hlk))
  · obtain ⟨hz, ad2, bk2, I2, c2, q2, ha0, hPn, hEn, hpv, hpe⟩ := hp
    rw [hpe] at hW
    subst hpv
    refine lv_if_eq (tgt := 15) hx hb dL_out_8 (by decide) (fun h => ?_) (fun h => ?_)
    · refine lv_lconst (v := 0) hx hb dL_out_15 (by decide) ?_
      refine g_last hx hb hK hW 99999 (show kW cy ad2 bk2 (pOut S b is).2.2 (I2, c2, q2) G 99999 = _ from hGo) (j := iI 0) (x := 0) (iI_in (by decide) (by decide) (by decide)) dL_out_16 (fun H locs hW => ?_)
      rw [kW_gup (by decide)] at hW
      refine lv_goto (tgt := 24) hx hb dL_out_17 (by decide) ?_
      refine xi_iconst hx hb dL_out_24 ?_
      exact W.widen (by first | omega | (dsimp only; omega)) (by first | omega | (dsimp only; omega)) (vx_ret (g_iret hx hb hr hW ⟨by rw [hz], ad2, bk2, I2, c2, q2, _, ha0, hPn, hEn, fun _ => (by rw [updL_0, if_pos h]), rfl⟩ dL_out_25 hlk))
    · refine lv_lconst (v := 1) hx hb dL_out_11 (by decide) ?_
      refine lv_goto (tgt := 16) hx hb dL_out_12 (by decide) ?_
      refine g_last hx hb hK hW 99999 (show kW cy ad2 bk2 (pOut S b is).2.2 (I2, c2, q2) G 99999 = _ from hGo) (j := iI 0) (x := 1) (iI_in (by decide) (by decide) (by decide)) dL_out_16 (fun H locs hW => ?_)
      rw [kW_gup (by decide)] at hW
      refine lv_goto (tgt := 24) hx hb dL_out_17 (by decide) ?_
      refine xi_iconst hx hb dL_out_24 ?_
      exact W.widen (by first | omega | (dsimp only; omega)) (by first | omega | (dsimp only; omega)) (vx_ret (g_iret hx hb hr hW ⟨by rw [hz], ad2, bk2, I2, c2, q2, _, ha0, hPn, hEn, fun _ => (by rw [updL_0, if_neg h]), rfl⟩ dL_out_25 hlk))
set_option maxHeartbeats 4000000 in
set_option maxRecDepth 100000 in
theorem c_L_holiday {l : Launch} {D : va_G} {cy : Nat → ClassId} {B0 : Nat} {ad bk : Nat → Nat} {S : ST} {I : Int → Bool} {cX qX : Int → Int64} {G : gF} (c : Int) (d : Int) (is : Bool) (hwf : wf S) (h_c : rI c) (h_d : rI d) (ho : okS S) (hlw : legW S) (he : S.1 31 0 + cNF S < 19900) (hG0 : G 50001 = none) (hG2 : G 50002 = none) (hG3 : G 50003 = none) (hP0 : nP S = 0 → ad 11 = D.1 21) (hE0 : nE S = 0 → bk 10 = D.1 21)  (hst : l.stackTraces = false) {o : Nat} {v0 : Nat → Int64} (hGo : G 99999 = some (o, outE cy v0)) : gX l yL_holiday vL_holiday 14 320 D cy B0 [.ref (ad 0), .int (iI (c)), .int (iI (d)), .int (iI (bI (is))), .ref o] (kW cy ad bk S (I, cX, qX) G) (hpQ D cy ad (pHoli S c d is).2.2 G o (pHoli S c d is).1 ((if (iI (pHoli S c d is).2.1) = 0 then 0 else 1))) (fun _ => False) (kTc (nE (pHoli S c d is).2.2) - kTc (nE S) + 16) (kTs (nE (pHoli S c d is).2.2) - kTs (nE S) + 400) := by
  refine g_startXH (cc := cL_holiday) (maxL := 6) (ret := (some .int)) (hh := [(0, 19, 22, 13), (0, 19, 26, 15)]) (by decide) rfl (Nat.le_of_ble_eq_true rfl) ?_
  intro p_ e_ s_ m_ be_ me_ co_ ls H locs K hr hlk hnm ht hK hW hl
  obtain ⟨hx, hb, hml, hown, hts⟩ := id K
  have hl : lv_has ls 6 [(0, .ref (ad 0)), (1, .int (iI (c))), (2, .int (iI (d))), (3, .int (iI (bI (is)))), (4, .ref o)] := hl
  refine lv_aload hx hb dL_holiday_0 (lv_at hl 4 rfl) ?_
  refine xi_iconst hx hb dL_holiday_2 ?_
  refine lv_aload_n hx hb dL_holiday_3 rfl (lv_at hl 0 rfl) ?_
  refine lv_iload_n hx hb dL_holiday_4 rfl (lv_at hl 1 rfl) ?_
  refine lv_iload_n hx hb dL_holiday_5 rfl (lv_at hl 2 rfl) ?_
  refine lv_iload_n hx hb dL_holiday_6 rfl (lv_at hl 3 rfl) ?_
  refine g_xcallV (i := 100000 + 0) (As := [.int (iI (c)), .int (iI (d)), .int (iI (bI (is)))]) (rest := [.int (iI (0)), .ref o]) K (c_X11_holiday c d is hwf h_c h_d ho hlw he hG0 hG2 hG3 hP0 hE0 hst) (cwV 3 hts (gd_T gL_X11_holiday) rfl rfl rfl (by decide +kernel) ⟨Nat.le_of_ble_eq_true rfl, Nat.le_of_ble_eq_true rfl⟩) hK hW (kW_at rfl) rfl rfl hl.1 rfl (Nat.le_of_ble_eq_true rfl) dL_holiday_7 ⟨Nat.le_of_eq (Nat.zero_add _), Nat.le_of_eq (Nat.zero_add _)⟩ (fun E_ ce_ q9_ H1 locs1 hE hW1 h1_ h2_ h3_ => ?_) (fun v_ f_ H locs hp hW => ?_)
  · rcases hE with ⟨hs, rfl⟩ | ⟨hs, rfl⟩
    · have hne : (pHoli S c d is).2.2 = S := by unfold pHoli at hs ⊢; rw [if_neg (sGo_n hs (by decide))]
      refine vx_catch (own := RL) (name := "java/lang/IndexOutOfBoundsException") (E := "java/lang/IndexOutOfBoundsException") hown ([] : List ExceptionTableEntry) ⟨0, 19, 22, 13⟩ [⟨0, 19, 26, 15⟩] ht (fun z hz => nomatch hz) rfl (by decide) (hts _ (List.mem_cons_of_mem _ wK_14)) (va_Nw.use rfl (hK.2.1 _ (List.mem_of_getElem? (i := 11) rfl))) h1_ h2_ h3_ ?_
      refine lv_astore (lv' := [(5, .ref q9_), (0, .ref (ad 0)), (1, .int (iI (c))), (2, .int (iI (d))), (3, .int (iI (bI (is)))), (4, .ref o)]) hx hb dL_holiday_22 hl (by decide) rfl (fun ls hl => ?_)
      refine xi_iconst hx hb dL_holiday_24 ?_
      exact W.widen (by first | omega | (dsimp only; omega)) (by first | omega | (dsimp only; omega)) (vx_ret (g_iret hx hb hr hW1 ⟨by rw [hs], ad, bk, I, cX, qX, v0, rfl, fun h => hP0 (by rw [hne] at h; exact h), fun h => hE0 (by rw [hne] at h; exact h), fun h => absurd (hs.symm.trans h) (by decide), by rw [hne, gup_id hGo]⟩ dL_holiday_25 hlk))
    · have hne : (pHoli S c d is).2.2 = S := by unfold pHoli at hs ⊢; rw [if_neg (sGo_n hs (by decide))]
      refine vx_catch (own := RL) (name := "java/lang/IllegalArgumentException") (E := "java/lang/IllegalArgumentException") hown ([⟨0, 19, 22, 13⟩] : List ExceptionTableEntry) ⟨0, 19, 26, 15⟩ [] ht (fun z hz => by rw [List.mem_singleton] at hz; subst hz; exact Or.inr ⟨by decide, _, hts _ (List.mem_cons_of_mem _ wK_14), hK.2.2.2.2.2.2.2 _ (List.mem_of_getElem? (l := gXc) (i := 0) rfl)⟩) rfl (by decide) (hts _ (List.mem_cons_of_mem _ wK_15)) (va_Nw.use rfl (hK.2.1 _ (List.mem_of_getElem? (i := 12) rfl))) h1_ h2_ h3_ ?_
      refine lv_astore (lv' := [(5, .ref q9_), (0, .ref (ad 0)), (1, .int (iI (c))), (2, .int (iI (d))), (3, .int (iI (bI (is)))), (4, .ref o)]) hx hb dL_holiday_26 hl (by decide) rfl (fun ls hl => ?_)
      refine xi_iconst hx hb dL_holiday_28 ?_
      exact W.widen (by first | omega | (dsimp only; omega)) (by first | omega | (dsimp only; omega)) (vx_ret (g_iret hx hb hr hW1 ⟨by rw [hs], ad, bk, I, cX, qX, v0, rfl, fun h => hP0 (by rw [hne] at h; exact h), fun h => hE0 (by rw [hne] at h; exact h), fun h => absurd (hs.symm.trans h) (by decide), by rw [hne, gup_id hGo]⟩ dL_holiday_29 hlk))
  · obtain ⟨hz, ad2, bk2, I2, c2, q2, ha0, hPn, hEn, hpv, hpe⟩ := hp
    rw [hpe] at hW
    subst hpv
    refine lv_if_eq (tgt := 17) hx hb dL_holiday_10 (by decide) (fun h => ?_) (fun h => ?_)
    · refine lv_lconst (v := 0) hx hb dL_holiday_17 (by decide) ?_
      refine g_last hx hb hK hW 99999 (show kW cy ad2 bk2 (pHoli S c d is).2.2 (I2, c2, q2) G 99999 = _ from hGo) (j := iI 0) (x := 0) (iI_in (by decide) (by decide) (by decide)) dL_holiday_18 (fun H locs hW => ?_)
      rw [kW_gup (by decide)] at hW
      refine lv_goto (tgt := 30) hx hb dL_holiday_19 (by decide) ?_
      refine xi_iconst hx hb dL_holiday_30 ?_
      exact W.widen (by first | omega | (dsimp only; omega)) (by first | omega | (dsimp only; omega)) (vx_ret (g_iret hx hb hr hW ⟨by rw [hz], ad2, bk2, I2, c2, q2, _, ha0, hPn, hEn, fun _ => (by rw [updL_0, if_pos h]), rfl⟩ dL_holiday_31 hlk))
    · refine lv_lconst (v := 1) hx hb dL_holiday_13 (by decide) ?_
      refine lv_goto (tgt := 18) hx hb dL_holiday_14 (by decide) ?_
      refine g_last hx hb hK hW 99999 (show kW cy ad2 bk2 (pHoli S c d is).2.2 (I2, c2, q2) G 99999 = _ from hGo) (j := iI 0) (x := 1) (iI_in (by decide) (by decide) (by decide)) dL_holiday_18 (fun H locs hW => ?_)
      rw [kW_gup (by decide)] at hW
      refine lv_goto (tgt := 30) hx hb dL_holiday_19 (by decide) ?_
      refine xi_iconst hx hb dL_holiday_30 ?_
      exact W.widen (by first | omega | (dsimp only; omega)) (by first | omega | (dsimp only; omega)) (vx_ret (g_iret hx hb hr hW ⟨by rw [hz], ad2, bk2, I2, c2, q2, _, ha0, hPn, hEn, fun _ => (by rw [updL_0, if_neg h]), rfl⟩ dL_holiday_31 hlk))
set_option maxHeartbeats 4000000 in
set_option maxRecDepth 100000 in
theorem c_L_list {l : Launch} {D : va_G} {cy : Nat → ClassId} {B0 : Nat} {ad bk : Nat → Nat} {S : ST} {I : Int → Bool} {cX qX : Int → Int64} {G : gF} (nm : Int) (is : Bool) (hwf : wf S) (h_nm : rI nm) (ho : okS S) (hlw : legW S) (he : S.1 31 0 + cNF S < 19900) (hG0 : G 50001 = none) (hG2 : G 50002 = none) (hG3 : G 50003 = none) (hP0 : nP S = 0 → ad 11 = D.1 21) (hE0 : nE S = 0 → bk 10 = D.1 21)  (hst : l.stackTraces = false) {o : Nat} {v0 : Nat → Int64} (hGo : G 99999 = some (o, outE cy v0)) : gX l yL_list vL_list 14 320 D cy B0 [.ref (ad 0), .int (iI (nm)), .int (iI (bI (is))), .ref o] (kW cy ad bk S (I, cX, qX) G) (hpQ D cy ad (pList S nm is).2.2 G o (pList S nm is).1 ((iI (pList S nm is).2.1).toInt64)) (fun _ => False) (kTc (nE (pList S nm is).2.2) - kTc (nE S) + 16) (kTs (nE (pList S nm is).2.2) - kTs (nE S) + 400) := by
  refine g_startXH (cc := cL_list) (maxL := 5) (ret := (some .int)) (hh := [(0, 10, 13, 13)]) (by decide) rfl (Nat.le_of_ble_eq_true rfl) ?_
  intro p_ e_ s_ m_ be_ me_ co_ ls H locs K hr hlk hnm ht hK hW hl
  obtain ⟨hx, hb, hml, hown, hts⟩ := id K
  have hl : lv_has ls 5 [(0, .ref (ad 0)), (1, .int (iI (nm))), (2, .int (iI (bI (is)))), (3, .ref o)] := hl
  refine lv_aload_n hx hb dL_list_0 rfl (lv_at hl 3 rfl) ?_
  refine xi_iconst hx hb dL_list_1 ?_
  refine lv_aload_n hx hb dL_list_2 rfl (lv_at hl 0 rfl) ?_
  refine lv_iload_n hx hb dL_list_3 rfl (lv_at hl 1 rfl) ?_
  refine lv_iload_n hx hb dL_list_4 rfl (lv_at hl 2 rfl) ?_
  refine g_xcallV (i := 100000 + 0) (As := [.int (iI (nm)), .int (iI (bI (is)))]) (rest := [.int (iI (0)), .ref o]) K (c_X11_list nm is hwf h_nm ho hlw he hG0 hG2 hG3 hP0 hE0 hst) (cwV 2 hts (gd_T gL_X11_list) rfl rfl rfl (by decide +kernel) ⟨Nat.le_of_ble_eq_true rfl, Nat.le_of_ble_eq_true rfl⟩) hK hW (kW_at rfl) rfl rfl hl.1 rfl (Nat.le_of_ble_eq_true rfl) dL_list_5 ⟨Nat.le_of_eq (Nat.zero_add _), Nat.le_of_eq (Nat.zero_add _)⟩ (fun E_ ce_ q9_ H1 locs1 hE hW1 h1_ h2_ h3_ => ?_) (fun v_ f_ H locs hp hW => ?_)
  · obtain ⟨hs, rfl⟩ := hE
    have hne : (pList S nm is).2.2 = S := by unfold pList at hs ⊢; rw [if_neg (sGo_n hs (by decide))]
    refine vx_catch (own := RL) (name := "java/lang/IndexOutOfBoundsException") (E := "java/lang/IndexOutOfBoundsException") hown ([] : List ExceptionTableEntry) ⟨0, 10, 13, 13⟩ [] ht (fun z hz => nomatch hz) rfl (by decide) (hts _ (List.mem_cons_of_mem _ wK_14)) (va_Nw.use rfl (hK.2.1 _ (List.mem_of_getElem? (i := 11) rfl))) h1_ h2_ h3_ ?_
    refine lv_astore (lv' := [(4, .ref q9_), (0, .ref (ad 0)), (1, .int (iI (nm))), (2, .int (iI (bI (is)))), (3, .ref o)]) hx hb dL_list_13 hl (by decide) rfl (fun ls hl => ?_)
    refine xi_iconst hx hb dL_list_15 ?_
    exact W.widen (by first | omega | (dsimp only; omega)) (by first | omega | (dsimp only; omega)) (vx_ret (g_iret hx hb hr hW1 ⟨by rw [hs], ad, bk, I, cX, qX, v0, rfl, fun h => hP0 (by rw [hne] at h; exact h), fun h => hE0 (by rw [hne] at h; exact h), fun h => absurd (hs.symm.trans h) (by decide), by rw [hne, gup_id hGo]⟩ dL_list_16 hlk))
  · obtain ⟨hz, ad2, bk2, I2, c2, q2, ha0, hPn, hEn, hpv, hpe⟩ := hp
    rw [hpe] at hW
    subst hpv
    refine lv_i2l hx hb dL_list_8 rfl ?_
    refine g_last hx hb hK hW 99999 (show kW cy ad2 bk2 (pList S nm is).2.2 (I2, c2, q2) G 99999 = _ from hGo) (j := iI 0) (x := (iI (pList S nm is).2.1).toInt64) (iI_in (by decide) (by decide) (by decide)) dL_list_9 (fun H locs hW => ?_)
    rw [kW_gup (by decide)] at hW
    refine lv_goto (tgt := 17) hx hb dL_list_10 (by decide) ?_
    refine xi_iconst hx hb dL_list_17 ?_
    exact W.widen (by first | omega | (dsimp only; omega)) (by first | omega | (dsimp only; omega)) (vx_ret (g_iret hx hb hr hW ⟨by rw [hz], ad2, bk2, I2, c2, q2, _, ha0, hPn, hEn, fun _ => updL_0, rfl⟩ dL_list_18 hlk))
set_option maxHeartbeats 4000000 in
set_option maxRecDepth 100000 in
theorem c_L_send {l : Launch} {D : va_G} {cy : Nat → ClassId} {B0 : Nat} {ad bk : Nat → Nat} {S : ST} {I : Int → Bool} {cX qX : Int → Int64} {G : gF} (b : Int) (msg : Int) (u : Int) (c : Int) (v : Int) (nm : Int) (h : Int) (rl : Bool) (d : Int) (st : Bool) (hwf : wf S) (h_b : rI b) (h_msg : rI msg) (h_u : rI u) (h_c : rI c) (h_v : rI v) (h_nm : rI nm) (h_h : rI h) (h_d : rI d) (ho : okS S) (hlw : legW S) (he : S.1 31 0 + cNF S < 19900) (hG0 : G 50001 = none) (hG2 : G 50002 = none) (hG3 : G 50003 = none) (hP0 : nP S = 0 → ad 11 = D.1 21) (hE0 : nE S = 0 → bk 10 = D.1 21) (hms : msgI S) (hnw : newI S) (h26 : S.1 26 0 < 100000) (hst : l.stackTraces = false) {o : Nat} {v0 : Nat → Int64} (hGo : G 99999 = some (o, outE cy v0)) : gX l yL_send vL_send 14 330 D cy B0 [.ref (ad 0), .int (iI (b)), .int (iI (msg)), .int (iI (u)), .int (iI (c)), .int (iI (v)), .int (iI (nm)), .int (iI (h)), .int (iI (bI (rl))), .int (iI (d)), .int (iI (bI (st))), .ref o] (kW cy ad bk S (I, cX, qX) G) (hpQ D cy ad (pSend S b msg u c v nm h rl d st).2.2 G o (pSend S b msg u c v nm h rl d st).1 ((iI (pSend S b msg u c v nm h rl d st).2.1).toInt64)) (fun _ => False) (kTc (nE (pSend S b msg u c v nm h rl d st).2.2) - kTc (nE S) + 16) (kTs (nE (pSend S b msg u c v nm h rl d st).2.2) - kTs (nE S) + 400) := by
  refine g_startXH (cc := cL_send) (maxL := 13) (ret := (some .int)) (hh := [(0, 26, 29, 13), (0, 26, 33, 15), (0, 26, 37, 41)]) (by decide) rfl (Nat.le_of_ble_eq_true rfl) ?_
  intro p_ e_ s_ m_ be_ me_ co_ ls H locs K hr hlk hnm ht hK hW hl
  obtain ⟨hx, hb, hml, hown, hts⟩ := id K
  have hl : lv_has ls 13 [(0, .ref (ad 0)), (1, .int (iI (b))), (2, .int (iI (msg))), (3, .int (iI (u))), (4, .int (iI (c))), (5, .int (iI (v))), (6, .int (iI (nm))), (7, .int (iI (h))), (8, .int (iI (bI (rl)))), (9, .int (iI (d))), (10, .int (iI (bI (st)))), (11, .ref o)] := hl
  refine lv_aload hx hb dL_send_0 (lv_at hl 11 rfl) ?_
  refine xi_iconst hx hb dL_send_2 ?_
  refine lv_aload_n hx hb dL_send_3 rfl (lv_at hl 0 rfl) ?_
  refine lv_iload_n hx hb dL_send_4 rfl (lv_at hl 1 rfl) ?_
  refine lv_iload_n hx hb dL_send_5 rfl (lv_at hl 2 rfl) ?_
  refine lv_iload_n hx hb dL_send_6 rfl (lv_at hl 3 rfl) ?_
  refine lv_iload hx hb dL_send_7 (lv_at hl 4 rfl) ?_
  refine lv_iload hx hb dL_send_9 (lv_at hl 5 rfl) ?_
  refine lv_iload hx hb dL_send_11 (lv_at hl 6 rfl) ?_
  refine lv_iload hx hb dL_send_13 (lv_at hl 7 rfl) ?_
  refine lv_iload hx hb dL_send_15 (lv_at hl 8 rfl) ?_
  refine lv_iload hx hb dL_send_17 (lv_at hl 9 rfl) ?_
  refine lv_iload hx hb dL_send_19 (lv_at hl 10 rfl) ?_
  refine g_xcallV (i := 100000 + 0) (As := [.int (iI (b)), .int (iI (msg)), .int (iI (u)), .int (iI (c)), .int (iI (v)), .int (iI (nm)), .int (iI (h)), .int (iI (bI (rl))), .int (iI (d)), .int (iI (bI (st)))]) (rest := [.int (iI (0)), .ref o]) K (c_X11_send b msg u c v nm h rl d st hwf h_b h_msg h_u h_c h_v h_nm h_h h_d ho hlw he hG0 hG2 hG3 hP0 hE0 hms hnw h26 hst) (cwV 10 hts (gd_T gL_X11_send) rfl rfl rfl (by decide +kernel) ⟨Nat.le_of_ble_eq_true rfl, Nat.le_of_ble_eq_true rfl⟩) hK hW (kW_at rfl) rfl rfl hl.1 rfl (Nat.le_of_ble_eq_true rfl) dL_send_21 ⟨Nat.le_of_eq (Nat.zero_add _), Nat.le_of_eq (Nat.zero_add _)⟩ (fun E_ ce_ q9_ H1 locs1 hE hW1 h1_ h2_ h3_ => ?_) (fun v_ f_ H locs hp hW => ?_)
  · rcases hE with ⟨hs, rfl⟩ | ⟨hs, rfl⟩ | ⟨hs, rfl⟩
    · have hne : (pSend S b msg u c v nm h rl d st).2.2 = S := by unfold pSend at hs ⊢; rw [if_neg (sGo_n hs (by decide))]
      refine vx_catch (own := RL) (name := "java/lang/IndexOutOfBoundsException") (E := "java/lang/IndexOutOfBoundsException") hown ([] : List ExceptionTableEntry) ⟨0, 26, 29, 13⟩ [⟨0, 26, 33, 15⟩, ⟨0, 26, 37, 41⟩] ht (fun z hz => nomatch hz) rfl (by decide) (hts _ (List.mem_cons_of_mem _ wK_14)) (va_Nw.use rfl (hK.2.1 _ (List.mem_of_getElem? (i := 11) rfl))) h1_ h2_ h3_ ?_
      refine lv_astore (lv' := [(12, .ref q9_), (0, .ref (ad 0)), (1, .int (iI (b))), (2, .int (iI (msg))), (3, .int (iI (u))), (4, .int (iI (c))), (5, .int (iI (v))), (6, .int (iI (nm))), (7, .int (iI (h))), (8, .int (iI (bI (rl)))), (9, .int (iI (d))), (10, .int (iI (bI (st)))), (11, .ref o)]) hx hb dL_send_29 hl (by decide) rfl (fun ls hl => ?_)
      refine xi_iconst hx hb dL_send_31 ?_
      exact W.widen (by first | omega | (dsimp only; omega)) (by first | omega | (dsimp only; omega)) (vx_ret (g_iret hx hb hr hW1 ⟨by rw [hs], ad, bk, I, cX, qX, v0, rfl, fun h => hP0 (by rw [hne] at h; exact h), fun h => hE0 (by rw [hne] at h; exact h), fun h => absurd (hs.symm.trans h) (by decide), by rw [hne, gup_id hGo]⟩ dL_send_32 hlk))
    · have hne : (pSend S b msg u c v nm h rl d st).2.2 = S := by unfold pSend at hs ⊢; rw [if_neg (sGo_n hs (by decide))]
      refine vx_catch (own := RL) (name := "java/lang/IllegalArgumentException") (E := "java/lang/IllegalArgumentException") hown ([⟨0, 26, 29, 13⟩] : List ExceptionTableEntry) ⟨0, 26, 33, 15⟩ [⟨0, 26, 37, 41⟩] ht (fun z hz => by rw [List.mem_singleton] at hz; subst hz; exact Or.inr ⟨by decide, _, hts _ (List.mem_cons_of_mem _ wK_14), hK.2.2.2.2.2.2.2 _ (List.mem_of_getElem? (l := gXc) (i := 0) rfl)⟩) rfl (by decide) (hts _ (List.mem_cons_of_mem _ wK_15)) (va_Nw.use rfl (hK.2.1 _ (List.mem_of_getElem? (i := 12) rfl))) h1_ h2_ h3_ ?_
      refine lv_astore (lv' := [(12, .ref q9_), (0, .ref (ad 0)), (1, .int (iI (b))), (2, .int (iI (msg))), (3, .int (iI (u))), (4, .int (iI (c))), (5, .int (iI (v))), (6, .int (iI (nm))), (7, .int (iI (h))), (8, .int (iI (bI (rl)))), (9, .int (iI (d))), (10, .int (iI (bI (st)))), (11, .ref o)]) hx hb dL_send_33 hl (by decide) rfl (fun ls hl => ?_)
      refine xi_iconst hx hb dL_send_35 ?_
      exact W.widen (by first | omega | (dsimp only; omega)) (by first | omega | (dsimp only; omega)) (vx_ret (g_iret hx hb hr hW1 ⟨by rw [hs], ad, bk, I, cX, qX, v0, rfl, fun h => hP0 (by rw [hne] at h; exact h), fun h => hE0 (by rw [hne] at h; exact h), fun h => absurd (hs.symm.trans h) (by decide), by rw [hne, gup_id hGo]⟩ dL_send_36 hlk))
    · have hne : (pSend S b msg u c v nm h rl d st).2.2 = S := by unfold pSend at hs ⊢; rw [if_neg (sGo_n hs (by decide))]
      refine vx_catch (own := RL) (name := "java/lang/IllegalStateException") (E := "java/lang/IllegalStateException") hown ([⟨0, 26, 29, 13⟩, ⟨0, 26, 33, 15⟩] : List ExceptionTableEntry) ⟨0, 26, 37, 41⟩ [] ht (fun z hz => by simp only [List.mem_cons, List.not_mem_nil, or_false] at hz; exact hz.elim (fun hz => (by subst hz; exact Or.inr ⟨by decide, _, hts _ (List.mem_cons_of_mem _ wK_14), hK.2.2.2.2.2.2.2 _ (List.mem_of_getElem? (l := gXc) (i := 1) rfl)⟩)) (fun hz => (by subst hz; exact Or.inr ⟨by decide, _, hts _ (List.mem_cons_of_mem _ wK_15), hK.2.2.2.2.2.2.2 _ (List.mem_of_getElem? (l := gXc) (i := 2) rfl)⟩))) rfl (by decide) (hts _ (List.mem_cons_of_mem _ wK_86)) (va_Nw.use rfl (hK.2.1 _ (List.mem_of_getElem? (i := 13) rfl))) h1_ h2_ h3_ ?_
      refine lv_astore (lv' := [(12, .ref q9_), (0, .ref (ad 0)), (1, .int (iI (b))), (2, .int (iI (msg))), (3, .int (iI (u))), (4, .int (iI (c))), (5, .int (iI (v))), (6, .int (iI (nm))), (7, .int (iI (h))), (8, .int (iI (bI (rl)))), (9, .int (iI (d))), (10, .int (iI (bI (st)))), (11, .ref o)]) hx hb dL_send_37 hl (by decide) rfl (fun ls hl => ?_)
      refine xi_iconst hx hb dL_send_39 ?_
      exact W.widen (by first | omega | (dsimp only; omega)) (by first | omega | (dsimp only; omega)) (vx_ret (g_iret hx hb hr hW1 ⟨by rw [hs], ad, bk, I, cX, qX, v0, rfl, fun h => hP0 (by rw [hne] at h; exact h), fun h => hE0 (by rw [hne] at h; exact h), fun h => absurd (hs.symm.trans h) (by decide), by rw [hne, gup_id hGo]⟩ dL_send_40 hlk))
  · obtain ⟨hz, ad2, bk2, I2, c2, q2, ha0, hPn, hEn, hpv, hpe⟩ := hp
    rw [hpe] at hW
    subst hpv
    refine lv_i2l hx hb dL_send_24 rfl ?_
    refine g_last hx hb hK hW 99999 (show kW cy ad2 bk2 (pSend S b msg u c v nm h rl d st).2.2 (I2, c2, q2) G 99999 = _ from hGo) (j := iI 0) (x := (iI (pSend S b msg u c v nm h rl d st).2.1).toInt64) (iI_in (by decide) (by decide) (by decide)) dL_send_25 (fun H locs hW => ?_)
    rw [kW_gup (by decide)] at hW
    refine lv_goto (tgt := 41) hx hb dL_send_26 (by decide) ?_
    refine xi_iconst hx hb dL_send_41 ?_
    exact W.widen (by first | omega | (dsimp only; omega)) (by first | omega | (dsimp only; omega)) (vx_ret (g_iret hx hb hr hW ⟨by rw [hz], ad2, bk2, I2, c2, q2, _, ha0, hPn, hEn, fun _ => updL_0, rfl⟩ dL_send_42 hlk))
set_option maxHeartbeats 4000000 in
set_option maxRecDepth 100000 in
theorem c_L_join {l : Launch} {D : va_G} {cy : Nat → ClassId} {B0 : Nat} {ad bk : Nat → Nat} {S : ST} {I : Int → Bool} {cX qX : Int → Int64} {G : gF} (k : Int) (u : Int) (hwf : wf S) (h_k : rI k) (h_u : rI u) (ho : okS S) (hlw : legW S) (he : S.1 31 0 + cNF S < 19900) (hG0 : G 50001 = none) (hG2 : G 50002 = none) (hG3 : G 50003 = none) (hP0 : nP S = 0 → ad 11 = D.1 21) (hE0 : nE S = 0 → bk 10 = D.1 21) (hlg : lg4 S) (hst : l.stackTraces = false) {o : Nat} {v0 : Nat → Int64} (hGo : G 99999 = some (o, outE cy v0)) : gX l yL_join vL_join 14 321 D cy B0 [.ref (ad 0), .int (iI (k)), .int (iI (u))] (kW cy ad bk S (I, cX, qX) G) (hpQ D cy ad (pJoin S k u).2 G o (pJoin S k u).1 (v0 0)) (fun _ => False) (kTc (nE (pJoin S k u).2) - kTc (nE S) + 16) (kTs (nE (pJoin S k u).2) - kTs (nE S) + 400) := by
  refine g_startXH (cc := cL_join) (maxL := 4) (ret := (some .int)) (hh := [(0, 6, 9, 13), (0, 6, 12, 41)]) (by decide) rfl (Nat.le_of_ble_eq_true rfl) ?_
  intro p_ e_ s_ m_ be_ me_ co_ ls H locs K hr hlk hnm ht hK hW hl
  obtain ⟨hx, hb, hml, hown, hts⟩ := id K
  have hl : lv_has ls 4 [(0, .ref (ad 0)), (1, .int (iI (k))), (2, .int (iI (u)))] := hl
  refine lv_aload_n hx hb dL_join_0 rfl (lv_at hl 0 rfl) ?_
  refine lv_iload_n hx hb dL_join_1 rfl (lv_at hl 1 rfl) ?_
  refine lv_iload_n hx hb dL_join_2 rfl (lv_at hl 2 rfl) ?_
  refine g_xcallV (i := 100000 + 0) (As := [.int (iI (k)), .int (iI (u))]) (rest := []) K (c_X11_join k u hwf h_k h_u ho hlw he hG0 hG2 hG3 hP0 hE0 hlg hst) (cwV 2 hts (gd_T gL_X11_join) rfl rfl rfl (by decide +kernel) ⟨Nat.le_of_ble_eq_true rfl, Nat.le_of_ble_eq_true rfl⟩) hK hW (kW_at rfl) rfl rfl hl.1 rfl (Nat.le_of_ble_eq_true rfl) dL_join_3 ⟨Nat.le_of_eq (Nat.zero_add _), Nat.le_of_eq (Nat.zero_add _)⟩ (fun E_ ce_ q9_ H1 locs1 hE hW1 h1_ h2_ h3_ => ?_) (fun v_ f_ H locs hp hW => ?_)
  · rcases hE with ⟨hs, rfl⟩ | ⟨hs, rfl⟩
    · have hne : (pJoin S k u).2 = S := by unfold pJoin at hs ⊢; rw [if_neg (sGo_n hs (by decide))]
      refine vx_catch (own := RL) (name := "java/lang/IndexOutOfBoundsException") (E := "java/lang/IndexOutOfBoundsException") hown ([] : List ExceptionTableEntry) ⟨0, 6, 9, 13⟩ [⟨0, 6, 12, 41⟩] ht (fun z hz => nomatch hz) rfl (by decide) (hts _ (List.mem_cons_of_mem _ wK_14)) (va_Nw.use rfl (hK.2.1 _ (List.mem_of_getElem? (i := 11) rfl))) h1_ h2_ h3_ ?_
      refine lv_astore_n (lv' := [(3, .ref q9_), (0, .ref (ad 0)), (1, .int (iI (k))), (2, .int (iI (u)))]) hx hb dL_join_9 rfl hl (by decide) rfl (fun ls hl => ?_)
      refine xi_iconst hx hb dL_join_10 ?_
      exact W.widen (by first | omega | (dsimp only; omega)) (by first | omega | (dsimp only; omega)) (vx_ret (g_iret hx hb hr hW1 ⟨by rw [hs], ad, bk, I, cX, qX, v0, rfl, fun h => hP0 (by rw [hne] at h; exact h), fun h => hE0 (by rw [hne] at h; exact h), fun h => absurd (hs.symm.trans h) (by decide), by rw [hne, gup_id hGo]⟩ dL_join_11 hlk))
    · have hne : (pJoin S k u).2 = S := by unfold pJoin at hs ⊢; rw [if_neg (sGo_n hs (by decide))]
      refine vx_catch (own := RL) (name := "java/lang/IllegalStateException") (E := "java/lang/IllegalStateException") hown ([⟨0, 6, 9, 13⟩] : List ExceptionTableEntry) ⟨0, 6, 12, 41⟩ [] ht (fun z hz => by rw [List.mem_singleton] at hz; subst hz; exact Or.inr ⟨by decide, _, hts _ (List.mem_cons_of_mem _ wK_14), hK.2.2.2.2.2.2.2 _ (List.mem_of_getElem? (l := gXc) (i := 1) rfl)⟩) rfl (by decide) (hts _ (List.mem_cons_of_mem _ wK_86)) (va_Nw.use rfl (hK.2.1 _ (List.mem_of_getElem? (i := 13) rfl))) h1_ h2_ h3_ ?_
      refine lv_astore_n (lv' := [(3, .ref q9_), (0, .ref (ad 0)), (1, .int (iI (k))), (2, .int (iI (u)))]) hx hb dL_join_12 rfl hl (by decide) rfl (fun ls hl => ?_)
      refine xi_iconst hx hb dL_join_13 ?_
      exact W.widen (by first | omega | (dsimp only; omega)) (by first | omega | (dsimp only; omega)) (vx_ret (g_iret hx hb hr hW1 ⟨by rw [hs], ad, bk, I, cX, qX, v0, rfl, fun h => hP0 (by rw [hne] at h; exact h), fun h => hE0 (by rw [hne] at h; exact h), fun h => absurd (hs.symm.trans h) (by decide), by rw [hne, gup_id hGo]⟩ dL_join_14 hlk))
  · obtain ⟨hz, ad2, bk2, I2, c2, q2, ha0, hPn, hEn, hpv, hpe⟩ := hp
    rw [hpe] at hW
    subst hpv
    refine lv_goto (tgt := 15) hx hb dL_join_6 (by decide) ?_
    refine xi_iconst hx hb dL_join_15 ?_
    exact W.widen (by first | omega | (dsimp only; omega)) (by first | omega | (dsimp only; omega)) (vx_ret (g_iret hx hb hr hW ⟨by rw [hz], ad2, bk2, I2, c2, q2, v0, ha0, hPn, hEn, fun _ => rfl, by rw [gup_id hGo]⟩ dL_join_16 hlk))
set_option maxHeartbeats 4000000 in
set_option maxRecDepth 100000 in
theorem c_L_withdraw {l : Launch} {D : va_G} {cy : Nat → ClassId} {B0 : Nat} {ad bk : Nat → Nat} {S : ST} {I : Int → Bool} {cX qX : Int → Int64} {G : gF} (k : Int) (hwf : wf S) (h_k : rI k) (ho : okS S) (hlw : legW S) (he : S.1 31 0 + cNF S < 19900) (hG0 : G 50001 = none) (hG2 : G 50002 = none) (hG3 : G 50003 = none) (hP0 : nP S = 0 → ad 11 = D.1 21) (hE0 : nE S = 0 → bk 10 = D.1 21) (hlg : lg4 S) (hst : l.stackTraces = false) {o : Nat} {v0 : Nat → Int64} (hGo : G 99999 = some (o, outE cy v0)) : gX l yL_withdraw vL_withdraw 14 320 D cy B0 [.ref (ad 0), .int (iI (k)), .ref o] (kW cy ad bk S (I, cX, qX) G) (hpQ D cy ad (pWith S k).2.2 G o (pWith S k).1 ((iI (pWith S k).2.1).toInt64)) (fun _ => False) (kTc (nE (pWith S k).2.2) - kTc (nE S) + 16) (kTs (nE (pWith S k).2.2) - kTs (nE S) + 400) := by
  refine g_startXH (cc := cL_withdraw) (maxL := 4) (ret := (some .int)) (hh := [(0, 9, 12, 13), (0, 9, 15, 41)]) (by decide) rfl (Nat.le_of_ble_eq_true rfl) ?_
  intro p_ e_ s_ m_ be_ me_ co_ ls H locs K hr hlk hnm ht hK hW hl
  obtain ⟨hx, hb, hml, hown, hts⟩ := id K
  have hl : lv_has ls 4 [(0, .ref (ad 0)), (1, .int (iI (k))), (2, .ref o)] := hl
  refine lv_aload_n hx hb dL_withdraw_0 rfl (lv_at hl 2 rfl) ?_
  refine xi_iconst hx hb dL_withdraw_1 ?_
  refine lv_aload_n hx hb dL_withdraw_2 rfl (lv_at hl 0 rfl) ?_
  refine lv_iload_n hx hb dL_withdraw_3 rfl (lv_at hl 1 rfl) ?_
  refine g_xcallV (i := 100000 + 0) (As := [.int (iI (k))]) (rest := [.int (iI (0)), .ref o]) K (c_X11_withdraw k hwf h_k ho hlw he hG0 hG2 hG3 hP0 hE0 hlg hst) (cwV 1 hts (gd_T gL_X11_withdraw) rfl rfl rfl (by decide +kernel) ⟨Nat.le_of_ble_eq_true rfl, Nat.le_of_ble_eq_true rfl⟩) hK hW (kW_at rfl) rfl rfl hl.1 rfl (Nat.le_of_ble_eq_true rfl) dL_withdraw_4 ⟨Nat.le_of_eq (Nat.zero_add _), Nat.le_of_eq (Nat.zero_add _)⟩ (fun E_ ce_ q9_ H1 locs1 hE hW1 h1_ h2_ h3_ => ?_) (fun v_ f_ H locs hp hW => ?_)
  · rcases hE with ⟨hs, rfl⟩ | ⟨hs, rfl⟩
    · have hne : (pWith S k).2.2 = S := by unfold pWith at hs ⊢; rw [if_neg (sGo_n hs (by decide))]
      refine vx_catch (own := RL) (name := "java/lang/IndexOutOfBoundsException") (E := "java/lang/IndexOutOfBoundsException") hown ([] : List ExceptionTableEntry) ⟨0, 9, 12, 13⟩ [⟨0, 9, 15, 41⟩] ht (fun z hz => nomatch hz) rfl (by decide) (hts _ (List.mem_cons_of_mem _ wK_14)) (va_Nw.use rfl (hK.2.1 _ (List.mem_of_getElem? (i := 11) rfl))) h1_ h2_ h3_ ?_
      refine lv_astore_n (lv' := [(3, .ref q9_), (0, .ref (ad 0)), (1, .int (iI (k))), (2, .ref o)]) hx hb dL_withdraw_12 rfl hl (by decide) rfl (fun ls hl => ?_)
      refine xi_iconst hx hb dL_withdraw_13 ?_
      exact W.widen (by first | omega | (dsimp only; omega)) (by first | omega | (dsimp only; omega)) (vx_ret (g_iret hx hb hr hW1 ⟨by rw [hs], ad, bk, I, cX, qX, v0, rfl, fun h => hP0 (by rw [hne] at h; exact h), fun h => hE0 (by rw [hne] at h; exact h), fun h => absurd (hs.symm.trans h) (by decide), by rw [hne, gup_id hGo]⟩ dL_withdraw_14 hlk))
    · have hne : (pWith S k).2.2 = S := by unfold pWith at hs ⊢; rw [if_neg (sGo_n hs (by decide))]
      refine vx_catch (own := RL) (name := "java/lang/IllegalStateException") (E := "java/lang/IllegalStateException") hown ([⟨0, 9, 12, 13⟩] : List ExceptionTableEntry) ⟨0, 9, 15, 41⟩ [] ht (fun z hz => by rw [List.mem_singleton] at hz; subst hz; exact Or.inr ⟨by decide, _, hts _ (List.mem_cons_of_mem _ wK_14), hK.2.2.2.2.2.2.2 _ (List.mem_of_getElem? (l := gXc) (i := 1) rfl)⟩) rfl (by decide) (hts _ (List.mem_cons_of_mem _ wK_86)) (va_Nw.use rfl (hK.2.1 _ (List.mem_of_getElem? (i := 13) rfl))) h1_ h2_ h3_ ?_
      refine lv_astore_n (lv' := [(3, .ref q9_), (0, .ref (ad 0)), (1, .int (iI (k))), (2, .ref o)]) hx hb dL_withdraw_15 rfl hl (by decide) rfl (fun ls hl => ?_)
      refine xi_iconst hx hb dL_withdraw_16 ?_
      exact W.widen (by first | omega | (dsimp only; omega)) (by first | omega | (dsimp only; omega)) (vx_ret (g_iret hx hb hr hW1 ⟨by rw [hs], ad, bk, I, cX, qX, v0, rfl, fun h => hP0 (by rw [hne] at h; exact h), fun h => hE0 (by rw [hne] at h; exact h), fun h => absurd (hs.symm.trans h) (by decide), by rw [hne, gup_id hGo]⟩ dL_withdraw_17 hlk))
  · obtain ⟨hz, ad2, bk2, I2, c2, q2, ha0, hPn, hEn, hpv, hpe⟩ := hp
    rw [hpe] at hW
    subst hpv
    refine lv_i2l hx hb dL_withdraw_7 rfl ?_
    refine g_last hx hb hK hW 99999 (show kW cy ad2 bk2 (pWith S k).2.2 (I2, c2, q2) G 99999 = _ from hGo) (j := iI 0) (x := (iI (pWith S k).2.1).toInt64) (iI_in (by decide) (by decide) (by decide)) dL_withdraw_8 (fun H locs hW => ?_)
    rw [kW_gup (by decide)] at hW
    refine lv_goto (tgt := 18) hx hb dL_withdraw_9 (by decide) ?_
    refine xi_iconst hx hb dL_withdraw_18 ?_
    exact W.widen (by first | omega | (dsimp only; omega)) (by first | omega | (dsimp only; omega)) (vx_ret (g_iret hx hb hr hW ⟨by rw [hz], ad2, bk2, I2, c2, q2, _, ha0, hPn, hEn, fun _ => updL_0, rfl⟩ dL_withdraw_19 hlk))
set_option maxHeartbeats 4000000 in
set_option maxRecDepth 100000 in
theorem c_L_release {l : Launch} {D : va_G} {cy : Nat → ClassId} {B0 : Nat} {ad bk : Nat → Nat} {S : ST} {I : Int → Bool} {cX qX : Int → Int64} {G : gF} (k : Int) (y : Int) (hwf : wf S) (h_k : rI k) (h_y : rI y) (ho : okS S) (hlw : legW S) (he : S.1 31 0 + cNF S < 19900) (hG0 : G 50001 = none) (hG2 : G 50002 = none) (hG3 : G 50003 = none) (hP0 : nP S = 0 → ad 11 = D.1 21) (hE0 : nE S = 0 → bk 10 = D.1 21) (hre : relI S) (hsb : stab S) (hst : l.stackTraces = false) {o : Nat} {v0 : Nat → Int64} (hGo : G 99999 = some (o, outE cy v0)) : gX l yL_release vL_release 14 321 D cy B0 [.ref (ad 0), .int (iI (k)), .int (iI (y)), .ref o] (kW cy ad bk S (I, cX, qX) G) (hpQ D cy ad (pRel S k y).2.2 G o (pRel S k y).1 ((if (iI (pRel S k y).2.1) = 0 then 0 else 1))) (fun _ => False) (kTc (nE (pRel S k y).2.2) - kTc (nE S) + 16) (kTs (nE (pRel S k y).2.2) - kTs (nE S) + 400) := by
  refine g_startXH (cc := cL_release) (maxL := 5) (ret := (some .int)) (hh := [(0, 17, 20, 13), (0, 17, 24, 41)]) (by decide) rfl (Nat.le_of_ble_eq_true rfl) ?_
  intro p_ e_ s_ m_ be_ me_ co_ ls H locs K hr hlk hnm ht hK hW hl
  obtain ⟨hx, hb, hml, hown, hts⟩ := id K
  have hl : lv_has ls 5 [(0, .ref (ad 0)), (1, .int (iI (k))), (2, .int (iI (y))), (3, .ref o)] := hl
  refine lv_aload_n hx hb dL_release_0 rfl (lv_at hl 3 rfl) ?_
  refine xi_iconst hx hb dL_release_1 ?_
  refine lv_aload_n hx hb dL_release_2 rfl (lv_at hl 0 rfl) ?_
  refine lv_iload_n hx hb dL_release_3 rfl (lv_at hl 1 rfl) ?_
  refine lv_iload_n hx hb dL_release_4 rfl (lv_at hl 2 rfl) ?_
  refine g_xcallV (i := 100000 + 0) (As := [.int (iI (k)), .int (iI (y))]) (rest := [.int (iI (0)), .ref o]) K (c_X11_release k y hwf h_k h_y ho hlw he hG0 hG2 hG3 hP0 hE0 hre hsb hst) (cwV 2 hts (gd_T gL_X11_release) rfl rfl rfl (by decide +kernel) ⟨Nat.le_of_ble_eq_true rfl, Nat.le_of_ble_eq_true rfl⟩) hK hW (kW_at rfl) rfl rfl hl.1 rfl (Nat.le_of_ble_eq_true rfl) dL_release_5 ⟨Nat.le_of_eq (Nat.zero_add _), Nat.le_of_eq (Nat.zero_add _)⟩ (fun E_ ce_ q9_ H1 locs1 hE hW1 h1_ h2_ h3_ => ?_) (fun v_ f_ H locs hp hW => ?_)
  · rcases hE with ⟨hs, rfl⟩ | ⟨hs, rfl⟩
    · have hne : (pRel S k y).2.2 = S := by unfold pRel at hs ⊢; rw [if_neg (sGo_n hs (by decide))]
      refine vx_catch (own := RL) (name := "java/lang/IndexOutOfBoundsException") (E := "java/lang/IndexOutOfBoundsException") hown ([] : List ExceptionTableEntry) ⟨0, 17, 20, 13⟩ [⟨0, 17, 24, 41⟩] ht (fun z hz => nomatch hz) rfl (by decide) (hts _ (List.mem_cons_of_mem _ wK_14)) (va_Nw.use rfl (hK.2.1 _ (List.mem_of_getElem? (i := 11) rfl))) h1_ h2_ h3_ ?_
      refine lv_astore (lv' := [(4, .ref q9_), (0, .ref (ad 0)), (1, .int (iI (k))), (2, .int (iI (y))), (3, .ref o)]) hx hb dL_release_20 hl (by decide) rfl (fun ls hl => ?_)
      refine xi_iconst hx hb dL_release_22 ?_
      exact W.widen (by first | omega | (dsimp only; omega)) (by first | omega | (dsimp only; omega)) (vx_ret (g_iret hx hb hr hW1 ⟨by rw [hs], ad, bk, I, cX, qX, v0, rfl, fun h => hP0 (by rw [hne] at h; exact h), fun h => hE0 (by rw [hne] at h; exact h), fun h => absurd (hs.symm.trans h) (by decide), by rw [hne, gup_id hGo]⟩ dL_release_23 hlk))
    · have hne : (pRel S k y).2.2 = S := by unfold pRel at hs ⊢; rw [if_neg (sGo_n hs (by decide))]
      refine vx_catch (own := RL) (name := "java/lang/IllegalStateException") (E := "java/lang/IllegalStateException") hown ([⟨0, 17, 20, 13⟩] : List ExceptionTableEntry) ⟨0, 17, 24, 41⟩ [] ht (fun z hz => by rw [List.mem_singleton] at hz; subst hz; exact Or.inr ⟨by decide, _, hts _ (List.mem_cons_of_mem _ wK_14), hK.2.2.2.2.2.2.2 _ (List.mem_of_getElem? (l := gXc) (i := 1) rfl)⟩) rfl (by decide) (hts _ (List.mem_cons_of_mem _ wK_86)) (va_Nw.use rfl (hK.2.1 _ (List.mem_of_getElem? (i := 13) rfl))) h1_ h2_ h3_ ?_
      refine lv_astore (lv' := [(4, .ref q9_), (0, .ref (ad 0)), (1, .int (iI (k))), (2, .int (iI (y))), (3, .ref o)]) hx hb dL_release_24 hl (by decide) rfl (fun ls hl => ?_)
      refine xi_iconst hx hb dL_release_26 ?_
      exact W.widen (by first | omega | (dsimp only; omega)) (by first | omega | (dsimp only; omega)) (vx_ret (g_iret hx hb hr hW1 ⟨by rw [hs], ad, bk, I, cX, qX, v0, rfl, fun h => hP0 (by rw [hne] at h; exact h), fun h => hE0 (by rw [hne] at h; exact h), fun h => absurd (hs.symm.trans h) (by decide), by rw [hne, gup_id hGo]⟩ dL_release_27 hlk))
  · obtain ⟨hz, ad2, bk2, I2, c2, q2, ha0, hPn, hEn, hpv, hpe⟩ := hp
    rw [hpe] at hW
    subst hpv
    refine lv_if_eq (tgt := 15) hx hb dL_release_8 (by decide) (fun h => ?_) (fun h => ?_)
    · refine lv_lconst (v := 0) hx hb dL_release_15 (by decide) ?_
      refine g_last hx hb hK hW 99999 (show kW cy ad2 bk2 (pRel S k y).2.2 (I2, c2, q2) G 99999 = _ from hGo) (j := iI 0) (x := 0) (iI_in (by decide) (by decide) (by decide)) dL_release_16 (fun H locs hW => ?_)
      rw [kW_gup (by decide)] at hW
      refine lv_goto (tgt := 28) hx hb dL_release_17 (by decide) ?_
      refine xi_iconst hx hb dL_release_28 ?_
      exact W.widen (by first | omega | (dsimp only; omega)) (by first | omega | (dsimp only; omega)) (vx_ret (g_iret hx hb hr hW ⟨by rw [hz], ad2, bk2, I2, c2, q2, _, ha0, hPn, hEn, fun _ => (by rw [updL_0, if_pos h]), rfl⟩ dL_release_29 hlk))
    · refine lv_lconst (v := 1) hx hb dL_release_11 (by decide) ?_
      refine lv_goto (tgt := 16) hx hb dL_release_12 (by decide) ?_
      refine g_last hx hb hK hW 99999 (show kW cy ad2 bk2 (pRel S k y).2.2 (I2, c2, q2) G 99999 = _ from hGo) (j := iI 0) (x := 1) (iI_in (by decide) (by decide) (by decide)) dL_release_16 (fun H locs hW => ?_)
      rw [kW_gup (by decide)] at hW
      refine lv_goto (tgt := 28) hx hb dL_release_17 (by decide) ?_
      refine xi_iconst hx hb dL_release_28 ?_
      exact W.widen (by first | omega | (dsimp only; omega)) (by first | omega | (dsimp only; omega)) (vx_ret (g_iret hx hb hr hW ⟨by rw [hz], ad2, bk2, I2, c2, q2, _, ha0, hPn, hEn, fun _ => (by rw [updL_0, if_neg h]), rfl⟩ dL_release_29 hlk))
set_option maxHeartbeats 4000000 in
set_option maxRecDepth 100000 in
theorem c_L_refuse {l : Launch} {D : va_G} {cy : Nat → ClassId} {B0 : Nat} {ad bk : Nat → Nat} {S : ST} {I : Int → Bool} {cX qX : Int → Int64} {G : gF} (k : Int) (hwf : wf S) (h_k : rI k) (ho : okS S) (hlw : legW S) (he : S.1 31 0 + cNF S < 19900) (hG0 : G 50001 = none) (hG2 : G 50002 = none) (hG3 : G 50003 = none) (hP0 : nP S = 0 → ad 11 = D.1 21) (hE0 : nE S = 0 → bk 10 = D.1 21) (hlg : lg4 S) (hst : l.stackTraces = false) {o : Nat} {v0 : Nat → Int64} (hGo : G 99999 = some (o, outE cy v0)) : gX l yL_refuse vL_refuse 14 320 D cy B0 [.ref (ad 0), .int (iI (k)), .ref o] (kW cy ad bk S (I, cX, qX) G) (hpQ D cy ad (pRefu S k).2.2 G o (pRefu S k).1 ((iI (pRefu S k).2.1).toInt64)) (fun _ => False) (kTc (nE (pRefu S k).2.2) - kTc (nE S) + 16) (kTs (nE (pRefu S k).2.2) - kTs (nE S) + 400) := by
  refine g_startXH (cc := cL_refuse) (maxL := 4) (ret := (some .int)) (hh := [(0, 9, 12, 13), (0, 9, 15, 41)]) (by decide) rfl (Nat.le_of_ble_eq_true rfl) ?_
  intro p_ e_ s_ m_ be_ me_ co_ ls H locs K hr hlk hnm ht hK hW hl
  obtain ⟨hx, hb, hml, hown, hts⟩ := id K
  have hl : lv_has ls 4 [(0, .ref (ad 0)), (1, .int (iI (k))), (2, .ref o)] := hl
  refine lv_aload_n hx hb dL_refuse_0 rfl (lv_at hl 2 rfl) ?_
  refine xi_iconst hx hb dL_refuse_1 ?_
  refine lv_aload_n hx hb dL_refuse_2 rfl (lv_at hl 0 rfl) ?_
  refine lv_iload_n hx hb dL_refuse_3 rfl (lv_at hl 1 rfl) ?_
  refine g_xcallV (i := 100000 + 0) (As := [.int (iI (k))]) (rest := [.int (iI (0)), .ref o]) K (c_X11_refuse k hwf h_k ho hlw he hG0 hG2 hG3 hP0 hE0 hlg hst) (cwV 1 hts (gd_T gL_X11_refuse) rfl rfl rfl (by decide +kernel) ⟨Nat.le_of_ble_eq_true rfl, Nat.le_of_ble_eq_true rfl⟩) hK hW (kW_at rfl) rfl rfl hl.1 rfl (Nat.le_of_ble_eq_true rfl) dL_refuse_4 ⟨Nat.le_of_eq (Nat.zero_add _), Nat.le_of_eq (Nat.zero_add _)⟩ (fun E_ ce_ q9_ H1 locs1 hE hW1 h1_ h2_ h3_ => ?_) (fun v_ f_ H locs hp hW => ?_)
  · rcases hE with ⟨hs, rfl⟩ | ⟨hs, rfl⟩
    · have hne : (pRefu S k).2.2 = S := by unfold pRefu at hs ⊢; rw [if_neg (sGo_n hs (by decide))]
      refine vx_catch (own := RL) (name := "java/lang/IndexOutOfBoundsException") (E := "java/lang/IndexOutOfBoundsException") hown ([] : List ExceptionTableEntry) ⟨0, 9, 12, 13⟩ [⟨0, 9, 15, 41⟩] ht (fun z hz => nomatch hz) rfl (by decide) (hts _ (List.mem_cons_of_mem _ wK_14)) (va_Nw.use rfl (hK.2.1 _ (List.mem_of_getElem? (i := 11) rfl))) h1_ h2_ h3_ ?_
      refine lv_astore_n (lv' := [(3, .ref q9_), (0, .ref (ad 0)), (1, .int (iI (k))), (2, .ref o)]) hx hb dL_refuse_12 rfl hl (by decide) rfl (fun ls hl => ?_)
      refine xi_iconst hx hb dL_refuse_13 ?_
      exact W.widen (by first | omega | (dsimp only; omega)) (by first | omega | (dsimp only; omega)) (vx_ret (g_iret hx hb hr hW1 ⟨by rw [hs], ad, bk, I, cX, qX, v0, rfl, fun h => hP0 (by rw [hne] at h; exact h), fun h => hE0 (by rw [hne] at h; exact h), fun h => absurd (hs.symm.trans h) (by decide), by rw [hne, gup_id hGo]⟩ dL_refuse_14 hlk))
    · have hne : (pRefu S k).2.2 = S := by unfold pRefu at hs ⊢; rw [if_neg (sGo_n hs (by decide))]
      refine vx_catch (own := RL) (name := "java/lang/IllegalStateException") (E := "java/lang/IllegalStateException") hown ([⟨0, 9, 12, 13⟩] : List ExceptionTableEntry) ⟨0, 9, 15, 41⟩ [] ht (fun z hz => by rw [List.mem_singleton] at hz; subst hz; exact Or.inr ⟨by decide, _, hts _ (List.mem_cons_of_mem _ wK_14), hK.2.2.2.2.2.2.2 _ (List.mem_of_getElem? (l := gXc) (i := 1) rfl)⟩) rfl (by decide) (hts _ (List.mem_cons_of_mem _ wK_86)) (va_Nw.use rfl (hK.2.1 _ (List.mem_of_getElem? (i := 13) rfl))) h1_ h2_ h3_ ?_
      refine lv_astore_n (lv' := [(3, .ref q9_), (0, .ref (ad 0)), (1, .int (iI (k))), (2, .ref o)]) hx hb dL_refuse_15 rfl hl (by decide) rfl (fun ls hl => ?_)
      refine xi_iconst hx hb dL_refuse_16 ?_
      exact W.widen (by first | omega | (dsimp only; omega)) (by first | omega | (dsimp only; omega)) (vx_ret (g_iret hx hb hr hW1 ⟨by rw [hs], ad, bk, I, cX, qX, v0, rfl, fun h => hP0 (by rw [hne] at h; exact h), fun h => hE0 (by rw [hne] at h; exact h), fun h => absurd (hs.symm.trans h) (by decide), by rw [hne, gup_id hGo]⟩ dL_refuse_17 hlk))
  · obtain ⟨hz, ad2, bk2, I2, c2, q2, ha0, hPn, hEn, hpv, hpe⟩ := hp
    rw [hpe] at hW
    subst hpv
    refine lv_i2l hx hb dL_refuse_7 rfl ?_
    refine g_last hx hb hK hW 99999 (show kW cy ad2 bk2 (pRefu S k).2.2 (I2, c2, q2) G 99999 = _ from hGo) (j := iI 0) (x := (iI (pRefu S k).2.1).toInt64) (iI_in (by decide) (by decide) (by decide)) dL_refuse_8 (fun H locs hW => ?_)
    rw [kW_gup (by decide)] at hW
    refine lv_goto (tgt := 18) hx hb dL_refuse_9 (by decide) ?_
    refine xi_iconst hx hb dL_refuse_18 ?_
    exact W.widen (by first | omega | (dsimp only; omega)) (by first | omega | (dsimp only; omega)) (vx_ret (g_iret hx hb hr hW ⟨by rw [hz], ad2, bk2, I2, c2, q2, _, ha0, hPn, hEn, fun _ => updL_0, rfl⟩ dL_refuse_19 hlk))
set_option maxHeartbeats 4000000 in
set_option maxRecDepth 100000 in
theorem c_L_offset {l : Launch} {D : va_G} {cy : Nat → ClassId} {B0 : Nat} {ad bk : Nat → Nat} {S : ST} {I : Int → Bool} {cX qX : Int → Int64} {G : gF} (c : Int) (hwf : wf S) (h_c : rI c) (ho : okS S) (hlw : legW S) (he : S.1 31 0 + cNF S < 19900) (hG0 : G 50001 = none) (hG2 : G 50002 = none) (hG3 : G 50003 = none) (hP0 : nP S = 0 → ad 11 = D.1 21) (hE0 : nE S = 0 → bk 10 = D.1 21)  (hst : l.stackTraces = false) {o : Nat} {v0 : Nat → Int64} (hGo : G 99999 = some (o, outE cy v0)) : gX l yL_offset vL_offset 14 319 D cy B0 [.ref (ad 0), .int (iI (c)), .ref o] (kW cy ad bk S (I, cX, qX) G) (hpQ D cy ad (pOff S c).2.2 G o (pOff S c).1 ((iI (pOff S c).2.1).toInt64)) (fun _ => False) (kTc (nE (pOff S c).2.2) - kTc (nE S) + 16) (kTs (nE (pOff S c).2.2) - kTs (nE S) + 400) := by
  refine g_startXH (cc := cL_offset) (maxL := 4) (ret := (some .int)) (hh := [(0, 9, 12, 13)]) (by decide) rfl (Nat.le_of_ble_eq_true rfl) ?_
  intro p_ e_ s_ m_ be_ me_ co_ ls H locs K hr hlk hnm ht hK hW hl
  obtain ⟨hx, hb, hml, hown, hts⟩ := id K
  have hl : lv_has ls 4 [(0, .ref (ad 0)), (1, .int (iI (c))), (2, .ref o)] := hl
  refine lv_aload_n hx hb dL_offset_0 rfl (lv_at hl 2 rfl) ?_
  refine xi_iconst hx hb dL_offset_1 ?_
  refine lv_aload_n hx hb dL_offset_2 rfl (lv_at hl 0 rfl) ?_
  refine lv_iload_n hx hb dL_offset_3 rfl (lv_at hl 1 rfl) ?_
  refine g_xcallV (i := 100000 + 0) (As := [.int (iI (c))]) (rest := [.int (iI (0)), .ref o]) K (c_X11_offset c hwf h_c ho hlw he hG0 hG2 hG3 hP0 hE0 hst) (cwV 1 hts (gd_T gL_X11_offset) rfl rfl rfl (by decide +kernel) ⟨Nat.le_of_ble_eq_true rfl, Nat.le_of_ble_eq_true rfl⟩) hK hW (kW_at rfl) rfl rfl hl.1 rfl (Nat.le_of_ble_eq_true rfl) dL_offset_4 ⟨Nat.le_of_eq (Nat.zero_add _), Nat.le_of_eq (Nat.zero_add _)⟩ (fun E_ ce_ q9_ H1 locs1 hE hW1 h1_ h2_ h3_ => ?_) (fun v_ f_ H locs hp hW => ?_)
  · obtain ⟨hs, rfl⟩ := hE
    have hne : (pOff S c).2.2 = S := by unfold pOff at hs ⊢; rw [if_neg (sGo_n hs (by decide))]
    refine vx_catch (own := RL) (name := "java/lang/IndexOutOfBoundsException") (E := "java/lang/IndexOutOfBoundsException") hown ([] : List ExceptionTableEntry) ⟨0, 9, 12, 13⟩ [] ht (fun z hz => nomatch hz) rfl (by decide) (hts _ (List.mem_cons_of_mem _ wK_14)) (va_Nw.use rfl (hK.2.1 _ (List.mem_of_getElem? (i := 11) rfl))) h1_ h2_ h3_ ?_
    refine lv_astore_n (lv' := [(3, .ref q9_), (0, .ref (ad 0)), (1, .int (iI (c))), (2, .ref o)]) hx hb dL_offset_12 rfl hl (by decide) rfl (fun ls hl => ?_)
    refine xi_iconst hx hb dL_offset_13 ?_
    exact W.widen (by first | omega | (dsimp only; omega)) (by first | omega | (dsimp only; omega)) (vx_ret (g_iret hx hb hr hW1 ⟨by rw [hs], ad, bk, I, cX, qX, v0, rfl, fun h => hP0 (by rw [hne] at h; exact h), fun h => hE0 (by rw [hne] at h; exact h), fun h => absurd (hs.symm.trans h) (by decide), by rw [hne, gup_id hGo]⟩ dL_offset_14 hlk))
  · obtain ⟨hz, ad2, bk2, I2, c2, q2, ha0, hPn, hEn, hpv, hpe⟩ := hp
    rw [hpe] at hW
    subst hpv
    refine lv_i2l hx hb dL_offset_7 rfl ?_
    refine g_last hx hb hK hW 99999 (show kW cy ad2 bk2 (pOff S c).2.2 (I2, c2, q2) G 99999 = _ from hGo) (j := iI 0) (x := (iI (pOff S c).2.1).toInt64) (iI_in (by decide) (by decide) (by decide)) dL_offset_8 (fun H locs hW => ?_)
    rw [kW_gup (by decide)] at hW
    refine lv_goto (tgt := 15) hx hb dL_offset_9 (by decide) ?_
    refine xi_iconst hx hb dL_offset_15 ?_
    exact W.widen (by first | omega | (dsimp only; omega)) (by first | omega | (dsimp only; omega)) (vx_ret (g_iret hx hb hr hW ⟨by rw [hz], ad2, bk2, I2, c2, q2, _, ha0, hPn, hEn, fun _ => updL_0, rfl⟩ dL_offset_16 hlk))
set_option maxHeartbeats 4000000 in
set_option maxRecDepth 100000 in
theorem c_L_recall {l : Launch} {D : va_G} {cy : Nat → ClassId} {B0 : Nat} {ad bk : Nat → Nat} {S : ST} {I : Int → Bool} {cX qX : Int → Int64} {G : gF} (k : Int) (hwf : wf S) (h_k : rI k) (ho : okS S) (hlw : legW S) (he : S.1 31 0 + cNF S < 19900) (hG0 : G 50001 = none) (hG2 : G 50002 = none) (hG3 : G 50003 = none) (hP0 : nP S = 0 → ad 11 = D.1 21) (hE0 : nE S = 0 → bk 10 = D.1 21) (hfd : fd41 S) (hrc : recI S) (hsb : stab S) (hst : l.stackTraces = false) {o : Nat} {v0 : Nat → Int64} (hGo : G 99999 = some (o, outE cy v0)) : gX l yL_recall vL_recall 14 320 D cy B0 [.ref (ad 0), .int (iI (k)), .ref o] (kW cy ad bk S (I, cX, qX) G) (hpQ D cy ad (pRec S k).2.2 G o (pRec S k).1 ((iI (pRec S k).2.1).toInt64)) (fun _ => False) (kTc (nE (pRec S k).2.2) - kTc (nE S) + 16) (kTs (nE (pRec S k).2.2) - kTs (nE S) + 400) := by
  refine g_startXH (cc := cL_recall) (maxL := 4) (ret := (some .int)) (hh := [(0, 9, 12, 13), (0, 9, 15, 41)]) (by decide) rfl (Nat.le_of_ble_eq_true rfl) ?_
  intro p_ e_ s_ m_ be_ me_ co_ ls H locs K hr hlk hnm ht hK hW hl
  obtain ⟨hx, hb, hml, hown, hts⟩ := id K
  have hl : lv_has ls 4 [(0, .ref (ad 0)), (1, .int (iI (k))), (2, .ref o)] := hl
  refine lv_aload_n hx hb dL_recall_0 rfl (lv_at hl 2 rfl) ?_
  refine xi_iconst hx hb dL_recall_1 ?_
  refine lv_aload_n hx hb dL_recall_2 rfl (lv_at hl 0 rfl) ?_
  refine lv_iload_n hx hb dL_recall_3 rfl (lv_at hl 1 rfl) ?_
  refine g_xcallV (i := 100000 + 0) (As := [.int (iI (k))]) (rest := [.int (iI (0)), .ref o]) K (c_X11_recall k hwf h_k ho hlw he hG0 hG2 hG3 hP0 hE0 hfd hrc hsb hst) (cwV 1 hts (gd_T gL_X11_recall) rfl rfl rfl (by decide +kernel) ⟨Nat.le_of_ble_eq_true rfl, Nat.le_of_ble_eq_true rfl⟩) hK hW (kW_at rfl) rfl rfl hl.1 rfl (Nat.le_of_ble_eq_true rfl) dL_recall_4 ⟨Nat.le_of_eq (Nat.zero_add _), Nat.le_of_eq (Nat.zero_add _)⟩ (fun E_ ce_ q9_ H1 locs1 hE hW1 h1_ h2_ h3_ => ?_) (fun v_ f_ H locs hp hW => ?_)
  · rcases hE with ⟨hs, rfl⟩ | ⟨hs, rfl⟩
    · have hne : (pRec S k).2.2 = S := by unfold pRec at hs ⊢; rw [if_neg (sGo_n hs (by decide))]
      refine vx_catch (own := RL) (name := "java/lang/IndexOutOfBoundsException") (E := "java/lang/IndexOutOfBoundsException") hown ([] : List ExceptionTableEntry) ⟨0, 9, 12, 13⟩ [⟨0, 9, 15, 41⟩] ht (fun z hz => nomatch hz) rfl (by decide) (hts _ (List.mem_cons_of_mem _ wK_14)) (va_Nw.use rfl (hK.2.1 _ (List.mem_of_getElem? (i := 11) rfl))) h1_ h2_ h3_ ?_
      refine lv_astore_n (lv' := [(3, .ref q9_), (0, .ref (ad 0)), (1, .int (iI (k))), (2, .ref o)]) hx hb dL_recall_12 rfl hl (by decide) rfl (fun ls hl => ?_)
      refine xi_iconst hx hb dL_recall_13 ?_
      exact W.widen (by first | omega | (dsimp only; omega)) (by first | omega | (dsimp only; omega)) (vx_ret (g_iret hx hb hr hW1 ⟨by rw [hs], ad, bk, I, cX, qX, v0, rfl, fun h => hP0 (by rw [hne] at h; exact h), fun h => hE0 (by rw [hne] at h; exact h), fun h => absurd (hs.symm.trans h) (by decide), by rw [hne, gup_id hGo]⟩ dL_recall_14 hlk))
    · have hne : (pRec S k).2.2 = S := by unfold pRec at hs ⊢; rw [if_neg (sGo_n hs (by decide))]
      refine vx_catch (own := RL) (name := "java/lang/IllegalStateException") (E := "java/lang/IllegalStateException") hown ([⟨0, 9, 12, 13⟩] : List ExceptionTableEntry) ⟨0, 9, 15, 41⟩ [] ht (fun z hz => by rw [List.mem_singleton] at hz; subst hz; exact Or.inr ⟨by decide, _, hts _ (List.mem_cons_of_mem _ wK_14), hK.2.2.2.2.2.2.2 _ (List.mem_of_getElem? (l := gXc) (i := 1) rfl)⟩) rfl (by decide) (hts _ (List.mem_cons_of_mem _ wK_86)) (va_Nw.use rfl (hK.2.1 _ (List.mem_of_getElem? (i := 13) rfl))) h1_ h2_ h3_ ?_
      refine lv_astore_n (lv' := [(3, .ref q9_), (0, .ref (ad 0)), (1, .int (iI (k))), (2, .ref o)]) hx hb dL_recall_15 rfl hl (by decide) rfl (fun ls hl => ?_)
      refine xi_iconst hx hb dL_recall_16 ?_
      exact W.widen (by first | omega | (dsimp only; omega)) (by first | omega | (dsimp only; omega)) (vx_ret (g_iret hx hb hr hW1 ⟨by rw [hs], ad, bk, I, cX, qX, v0, rfl, fun h => hP0 (by rw [hne] at h; exact h), fun h => hE0 (by rw [hne] at h; exact h), fun h => absurd (hs.symm.trans h) (by decide), by rw [hne, gup_id hGo]⟩ dL_recall_17 hlk))
  · obtain ⟨hz, ad2, bk2, I2, c2, q2, ha0, hPn, hEn, hpv, hpe⟩ := hp
    rw [hpe] at hW
    subst hpv
    refine lv_i2l hx hb dL_recall_7 rfl ?_
    refine g_last hx hb hK hW 99999 (show kW cy ad2 bk2 (pRec S k).2.2 (I2, c2, q2) G 99999 = _ from hGo) (j := iI 0) (x := (iI (pRec S k).2.1).toInt64) (iI_in (by decide) (by decide) (by decide)) dL_recall_8 (fun H locs hW => ?_)
    rw [kW_gup (by decide)] at hW
    refine lv_goto (tgt := 18) hx hb dL_recall_9 (by decide) ?_
    refine xi_iconst hx hb dL_recall_18 ?_
    exact W.widen (by first | omega | (dsimp only; omega)) (by first | omega | (dsimp only; omega)) (vx_ret (g_iret hx hb hr hW ⟨by rw [hz], ad2, bk2, I2, c2, q2, _, ha0, hPn, hEn, fun _ => updL_0, rfl⟩ dL_recall_19 hlk))
set_option maxHeartbeats 4000000 in
set_option maxRecDepth 100000 in
theorem c_L_answer {l : Launch} {D : va_G} {cy : Nat → ClassId} {B0 : Nat} {ad bk : Nat → Nat} {S : ST} {I : Int → Bool} {cX qX : Int → Int64} {G : gF} (k : Int) (y : Bool) (hwf : wf S) (h_k : rI k) (ho : okS S) (hlw : legW S) (he : S.1 31 0 + cNF S < 19900) (hG0 : G 50001 = none) (hG2 : G 50002 = none) (hG3 : G 50003 = none) (hP0 : nP S = 0 → ad 11 = D.1 21) (hE0 : nE S = 0 → bk 10 = D.1 21) (hrc : recI S) (hsb : stab S) (hnw : newI S) (hst : l.stackTraces = false) {o : Nat} {v0 : Nat → Int64} (hGo : G 99999 = some (o, outE cy v0)) : gX l yL_answer vL_answer 14 321 D cy B0 [.ref (ad 0), .int (iI (k)), .int (iI (bI (y))), .ref o] (kW cy ad bk S (I, cX, qX) G) (hpQ D cy ad (pAns S k y).2.2 G o (pAns S k y).1 ((iI (pAns S k y).2.1).toInt64)) (fun _ => False) (kTc (nE (pAns S k y).2.2) - kTc (nE S) + 16) (kTs (nE (pAns S k y).2.2) - kTs (nE S) + 400) := by
  refine g_startXH (cc := cL_answer) (maxL := 5) (ret := (some .int)) (hh := [(0, 10, 13, 13), (0, 10, 17, 41)]) (by decide) rfl (Nat.le_of_ble_eq_true rfl) ?_
  intro p_ e_ s_ m_ be_ me_ co_ ls H locs K hr hlk hnm ht hK hW hl
  obtain ⟨hx, hb, hml, hown, hts⟩ := id K
  have hl : lv_has ls 5 [(0, .ref (ad 0)), (1, .int (iI (k))), (2, .int (iI (bI (y)))), (3, .ref o)] := hl
  refine lv_aload_n hx hb dL_answer_0 rfl (lv_at hl 3 rfl) ?_
  refine xi_iconst hx hb dL_answer_1 ?_
  refine lv_aload_n hx hb dL_answer_2 rfl (lv_at hl 0 rfl) ?_
  refine lv_iload_n hx hb dL_answer_3 rfl (lv_at hl 1 rfl) ?_
  refine lv_iload_n hx hb dL_answer_4 rfl (lv_at hl 2 rfl) ?_
  refine g_xcallV (i := 100000 + 0) (As := [.int (iI (k)), .int (iI (bI (y)))]) (rest := [.int (iI (0)), .ref o]) K (c_X11_answer k y hwf h_k ho hlw he hG0 hG2 hG3 hP0 hE0 hrc hsb hnw hst) (cwV 2 hts (gd_T gL_X11_answer) rfl rfl rfl (by decide +kernel) ⟨Nat.le_of_ble_eq_true rfl, Nat.le_of_ble_eq_true rfl⟩) hK hW (kW_at rfl) rfl rfl hl.1 rfl (Nat.le_of_ble_eq_true rfl) dL_answer_5 ⟨Nat.le_of_eq (Nat.zero_add _), Nat.le_of_eq (Nat.zero_add _)⟩ (fun E_ ce_ q9_ H1 locs1 hE hW1 h1_ h2_ h3_ => ?_) (fun v_ f_ H locs hp hW => ?_)
  · rcases hE with ⟨hs, rfl⟩ | ⟨hs, rfl⟩
    · have hne : (pAns S k y).2.2 = S := by unfold pAns at hs ⊢; rw [if_neg (sGo_n hs (by decide))]
      refine vx_catch (own := RL) (name := "java/lang/IndexOutOfBoundsException") (E := "java/lang/IndexOutOfBoundsException") hown ([] : List ExceptionTableEntry) ⟨0, 10, 13, 13⟩ [⟨0, 10, 17, 41⟩] ht (fun z hz => nomatch hz) rfl (by decide) (hts _ (List.mem_cons_of_mem _ wK_14)) (va_Nw.use rfl (hK.2.1 _ (List.mem_of_getElem? (i := 11) rfl))) h1_ h2_ h3_ ?_
      refine lv_astore (lv' := [(4, .ref q9_), (0, .ref (ad 0)), (1, .int (iI (k))), (2, .int (iI (bI (y)))), (3, .ref o)]) hx hb dL_answer_13 hl (by decide) rfl (fun ls hl => ?_)
      refine xi_iconst hx hb dL_answer_15 ?_
      exact W.widen (by first | omega | (dsimp only; omega)) (by first | omega | (dsimp only; omega)) (vx_ret (g_iret hx hb hr hW1 ⟨by rw [hs], ad, bk, I, cX, qX, v0, rfl, fun h => hP0 (by rw [hne] at h; exact h), fun h => hE0 (by rw [hne] at h; exact h), fun h => absurd (hs.symm.trans h) (by decide), by rw [hne, gup_id hGo]⟩ dL_answer_16 hlk))
    · have hne : (pAns S k y).2.2 = S := by unfold pAns at hs ⊢; rw [if_neg (sGo_n hs (by decide))]
      refine vx_catch (own := RL) (name := "java/lang/IllegalStateException") (E := "java/lang/IllegalStateException") hown ([⟨0, 10, 13, 13⟩] : List ExceptionTableEntry) ⟨0, 10, 17, 41⟩ [] ht (fun z hz => by rw [List.mem_singleton] at hz; subst hz; exact Or.inr ⟨by decide, _, hts _ (List.mem_cons_of_mem _ wK_14), hK.2.2.2.2.2.2.2 _ (List.mem_of_getElem? (l := gXc) (i := 1) rfl)⟩) rfl (by decide) (hts _ (List.mem_cons_of_mem _ wK_86)) (va_Nw.use rfl (hK.2.1 _ (List.mem_of_getElem? (i := 13) rfl))) h1_ h2_ h3_ ?_
      refine lv_astore (lv' := [(4, .ref q9_), (0, .ref (ad 0)), (1, .int (iI (k))), (2, .int (iI (bI (y)))), (3, .ref o)]) hx hb dL_answer_17 hl (by decide) rfl (fun ls hl => ?_)
      refine xi_iconst hx hb dL_answer_19 ?_
      exact W.widen (by first | omega | (dsimp only; omega)) (by first | omega | (dsimp only; omega)) (vx_ret (g_iret hx hb hr hW1 ⟨by rw [hs], ad, bk, I, cX, qX, v0, rfl, fun h => hP0 (by rw [hne] at h; exact h), fun h => hE0 (by rw [hne] at h; exact h), fun h => absurd (hs.symm.trans h) (by decide), by rw [hne, gup_id hGo]⟩ dL_answer_20 hlk))
  · obtain ⟨hz, ad2, bk2, I2, c2, q2, ha0, hPn, hEn, hpv, hpe⟩ := hp
    rw [hpe] at hW
    subst hpv
    refine lv_i2l hx hb dL_answer_8 rfl ?_
    refine g_last hx hb hK hW 99999 (show kW cy ad2 bk2 (pAns S k y).2.2 (I2, c2, q2) G 99999 = _ from hGo) (j := iI 0) (x := (iI (pAns S k y).2.1).toInt64) (iI_in (by decide) (by decide) (by decide)) dL_answer_9 (fun H locs hW => ?_)
    rw [kW_gup (by decide)] at hW
    refine lv_goto (tgt := 21) hx hb dL_answer_10 (by decide) ?_
    refine xi_iconst hx hb dL_answer_21 ?_
    exact W.widen (by first | omega | (dsimp only; omega)) (by first | omega | (dsimp only; omega)) (vx_ret (g_iret hx hb hr hW ⟨by rw [hz], ad2, bk2, I2, c2, q2, _, ha0, hPn, hEn, fun _ => updL_0, rfl⟩ dL_answer_22 hlk))
set_option maxHeartbeats 4000000 in
set_option maxRecDepth 100000 in
theorem c_L_endDay {l : Launch} {D : va_G} {cy : Nat → ClassId} {B0 : Nat} {ad bk : Nat → Nat} {S : ST} {I : Int → Bool} {cX qX : Int → Int64} {G : gF}  (hwf : wf S)  (ho : okS S) (hlw : legW S) (he : S.1 31 0 + cNF S < 19900) (hG0 : G 50001 = none) (hG2 : G 50002 = none) (hG3 : G 50003 = none) (hP0 : nP S = 0 → ad 11 = D.1 21) (hE0 : nE S = 0 → bk 10 = D.1 21) (hlg : lg4 S) (hfd2 : fd41 (sEd2 (sEd1 S).2)) (hbal : balB (sEd2 (sEd1 S).2)) (hst : l.stackTraces = false) {o : Nat} {v0 : Nat → Int64} (hGo : G 99999 = some (o, outE cy v0)) : gX l yL_endDay vL_endDay 14 318 D cy B0 [.ref (ad 0), .ref o] (kW cy ad bk S (I, cX, qX) G) (hpQ D cy ad (pEnd S).2.2 G o (pEnd S).1 ((iI (pEnd S).2.1).toInt64)) (fun _ => False) (kTc (nE (pEnd S).2.2) - kTc (nE S) + 16) (kTs (nE (pEnd S).2.2) - kTs (nE S) + 400) := by
  refine g_startXH (cc := cL_endDay) (maxL := 3) (ret := (some .int)) (hh := [(0, 8, 11, 41)]) (by decide) rfl (Nat.le_of_ble_eq_true rfl) ?_
  intro p_ e_ s_ m_ be_ me_ co_ ls H locs K hr hlk hnm ht hK hW hl
  obtain ⟨hx, hb, hml, hown, hts⟩ := id K
  have hl : lv_has ls 3 [(0, .ref (ad 0)), (1, .ref o)] := hl
  refine lv_aload_n hx hb dL_endDay_0 rfl (lv_at hl 1 rfl) ?_
  refine xi_iconst hx hb dL_endDay_1 ?_
  refine lv_aload_n hx hb dL_endDay_2 rfl (lv_at hl 0 rfl) ?_
  refine g_xcallV (i := 100000 + 0) (As := []) (rest := [.int (iI (0)), .ref o]) K (c_X11_endDay  hwf ho hlw he hG0 hG2 hG3 hP0 hE0 hlg hfd2 hbal hst) (cwV 0 hts (gd_T gL_X11_endDay) rfl rfl rfl (by decide +kernel) ⟨Nat.le_of_ble_eq_true rfl, Nat.le_of_ble_eq_true rfl⟩) hK hW (kW_at rfl) rfl rfl hl.1 rfl (Nat.le_of_ble_eq_true rfl) dL_endDay_3 ⟨Nat.le_of_eq (Nat.zero_add _), Nat.le_of_eq (Nat.zero_add _)⟩ (fun E_ ce_ q9_ H1 locs1 hE hW1 h1_ h2_ h3_ => ?_) (fun v_ f_ H locs hp hW => ?_)
  · obtain ⟨hs, rfl⟩ := hE
    have hne : (pEnd S).2.2 = S := by unfold pEnd at hs ⊢; rw [if_neg (sGo_n hs (by decide))]
    refine vx_catch (own := RL) (name := "java/lang/IllegalStateException") (E := "java/lang/IllegalStateException") hown ([] : List ExceptionTableEntry) ⟨0, 8, 11, 41⟩ [] ht (fun z hz => nomatch hz) rfl (by decide) (hts _ (List.mem_cons_of_mem _ wK_86)) (va_Nw.use rfl (hK.2.1 _ (List.mem_of_getElem? (i := 13) rfl))) h1_ h2_ h3_ ?_
    refine lv_astore_n (lv' := [(2, .ref q9_), (0, .ref (ad 0)), (1, .ref o)]) hx hb dL_endDay_11 rfl hl (by decide) rfl (fun ls hl => ?_)
    refine xi_iconst hx hb dL_endDay_12 ?_
    exact W.widen (by first | omega | (dsimp only; omega)) (by first | omega | (dsimp only; omega)) (vx_ret (g_iret hx hb hr hW1 ⟨by rw [hs], ad, bk, I, cX, qX, v0, rfl, fun h => hP0 (by rw [hne] at h; exact h), fun h => hE0 (by rw [hne] at h; exact h), fun h => absurd (hs.symm.trans h) (by decide), by rw [hne, gup_id hGo]⟩ dL_endDay_13 hlk))
  · obtain ⟨hz, ad2, bk2, I2, c2, q2, ha0, hPn, hEn, hpv, hpe⟩ := hp
    rw [hpe] at hW
    subst hpv
    refine lv_i2l hx hb dL_endDay_6 rfl ?_
    refine g_last hx hb hK hW 99999 (show kW cy ad2 bk2 (pEnd S).2.2 (I2, c2, q2) G 99999 = _ from hGo) (j := iI 0) (x := (iI (pEnd S).2.1).toInt64) (iI_in (by decide) (by decide) (by decide)) dL_endDay_7 (fun H locs hW => ?_)
    rw [kW_gup (by decide)] at hW
    refine lv_goto (tgt := 14) hx hb dL_endDay_8 (by decide) ?_
    refine xi_iconst hx hb dL_endDay_14 ?_
    exact W.widen (by first | omega | (dsimp only; omega)) (by first | omega | (dsimp only; omega)) (vx_ret (g_iret hx hb hr hW ⟨by rw [hz], ad2, bk2, I2, c2, q2, _, ha0, hPn, hEn, fun _ => updL_0, rfl⟩ dL_endDay_15 hlk))
set_option maxHeartbeats 4000000 in
set_option maxRecDepth 100000 in
theorem c_L_account {l : Launch} {D : va_G} {cy : Nat → ClassId} {B0 : Nat} {ad bk : Nat → Nat} {S : ST} {I : Int → Bool} {cX qX : Int → Int64} {G : gF} (b : Int) (c : Int) (hwf : wf S) (h_b : rI b) (h_c : rI c) (ho : okS S) (hlw : legW S) (he : S.1 31 0 + cNF S < 19900) (hG0 : G 50001 = none) (hG2 : G 50002 = none) (hG3 : G 50003 = none) (hP0 : nP S = 0 → ad 11 = D.1 21) (hE0 : nE S = 0 → bk 10 = D.1 21)  (hst : l.stackTraces = false) {o : Nat} {v0 : Nat → Int64} (hGo : G 99999 = some (o, outE cy v0)) : gX l yL_account vL_account 8 125 D cy B0 [.ref (ad 0), .int (iI (b)), .int (iI (c)), .ref o] (kW cy ad bk S (I, cX, qX) G) (hpQ D cy ad (pAcc S b c).2.2 G o (pAcc S b c).1 ((pAcc S b c).2.1)) (fun _ => False) (kTc (nE (pAcc S b c).2.2) - kTc (nE S) + 16) (kTs (nE (pAcc S b c).2.2) - kTs (nE S) + 400) := by
  refine g_startXH (cc := cL_account) (maxL := 5) (ret := (some .int)) (hh := [(0, 9, 12, 13)]) (by decide) rfl (Nat.le_of_ble_eq_true rfl) ?_
  intro p_ e_ s_ m_ be_ me_ co_ ls H locs K hr hlk hnm ht hK hW hl
  obtain ⟨hx, hb, hml, hown, hts⟩ := id K
  have hl : lv_has ls 5 [(0, .ref (ad 0)), (1, .int (iI (b))), (2, .int (iI (c))), (3, .ref o)] := hl
  refine lv_aload_n hx hb dL_account_0 rfl (lv_at hl 3 rfl) ?_
  refine xi_iconst hx hb dL_account_1 ?_
  refine lv_aload_n hx hb dL_account_2 rfl (lv_at hl 0 rfl) ?_
  refine lv_iload_n hx hb dL_account_3 rfl (lv_at hl 1 rfl) ?_
  refine lv_iload_n hx hb dL_account_4 rfl (lv_at hl 2 rfl) ?_
  refine g_xcallV (i := 100000 + 0) (As := [.int (iI (b)), .int (iI (c))]) (rest := [.int (iI (0)), .ref o]) K (c_X11_account b c hwf h_b h_c ho hlw he hG0 hG2 hG3 hP0 hE0 hst) (cwV 2 hts (gd_T gL_X11_account) rfl rfl rfl (by decide +kernel) ⟨Nat.le_of_ble_eq_true rfl, Nat.le_of_ble_eq_true rfl⟩) hK hW (kW_at rfl) rfl rfl hl.1 rfl (Nat.le_of_ble_eq_true rfl) dL_account_5 ⟨Nat.le_of_eq (Nat.zero_add _), Nat.le_of_eq (Nat.zero_add _)⟩ (fun E_ ce_ q9_ H1 locs1 hE hW1 h1_ h2_ h3_ => ?_) (fun v_ f_ H locs hp hW => ?_)
  · obtain ⟨hs, rfl⟩ := hE
    have hne : (pAcc S b c).2.2 = S := by unfold pAcc at hs ⊢; rw [if_neg (sGo_n hs (by decide))]
    refine vx_catch (own := RL) (name := "java/lang/IndexOutOfBoundsException") (E := "java/lang/IndexOutOfBoundsException") hown ([] : List ExceptionTableEntry) ⟨0, 9, 12, 13⟩ [] ht (fun z hz => nomatch hz) rfl (by decide) (hts _ (List.mem_cons_of_mem _ wK_14)) (va_Nw.use rfl (hK.2.1 _ (List.mem_of_getElem? (i := 11) rfl))) h1_ h2_ h3_ ?_
    refine lv_astore (lv' := [(4, .ref q9_), (0, .ref (ad 0)), (1, .int (iI (b))), (2, .int (iI (c))), (3, .ref o)]) hx hb dL_account_12 hl (by decide) rfl (fun ls hl => ?_)
    refine xi_iconst hx hb dL_account_14 ?_
    exact W.widen (by first | omega | (dsimp only; omega)) (by first | omega | (dsimp only; omega)) (vx_ret (g_iret hx hb hr hW1 ⟨by rw [hs], ad, bk, I, cX, qX, v0, rfl, fun h => hP0 (by rw [hne] at h; exact h), fun h => hE0 (by rw [hne] at h; exact h), fun h => absurd (hs.symm.trans h) (by decide), by rw [hne, gup_id hGo]⟩ dL_account_15 hlk))
  · obtain ⟨hz, ad2, bk2, I2, c2, q2, ha0, hPn, hEn, hpv, hpe⟩ := hp
    rw [hpe] at hW
    subst hpv
    refine g_last hx hb hK hW 99999 (show kW cy ad2 bk2 (pAcc S b c).2.2 (I2, c2, q2) G 99999 = _ from hGo) (j := iI 0) (x := (pAcc S b c).2.1) (iI_in (by decide) (by decide) (by decide)) dL_account_8 (fun H locs hW => ?_)
    rw [kW_gup (by decide)] at hW
    refine lv_goto (tgt := 16) hx hb dL_account_9 (by decide) ?_
    refine xi_iconst hx hb dL_account_16 ?_
    exact W.widen (by first | omega | (dsimp only; omega)) (by first | omega | (dsimp only; omega)) (vx_ret (g_iret hx hb hr hW ⟨by rw [hz], ad2, bk2, I2, c2, q2, _, ha0, hPn, hEn, fun _ => updL_0, rfl⟩ dL_account_17 hlk))
set_option maxHeartbeats 4000000 in
set_option maxRecDepth 100000 in
theorem c_L_accountAnew {l : Launch} {D : va_G} {cy : Nat → ClassId} {B0 : Nat} {ad bk : Nat → Nat} {S : ST} {I : Int → Bool} {cX qX : Int → Int64} {G : gF} (b : Int) (c : Int) (hwf : wf S) (h_b : rI b) (h_c : rI c) (ho : okS S) (hlw : legW S) (he : S.1 31 0 + cNF S < 19900) (hG0 : G 50001 = none) (hG2 : G 50002 = none) (hG3 : G 50003 = none) (hP0 : nP S = 0 → ad 11 = D.1 21) (hE0 : nE S = 0 → bk 10 = D.1 21) (hsm : smE S) (hst : l.stackTraces = false) {o : Nat} {v0 : Nat → Int64} (hGo : G 99999 = some (o, outE cy v0)) : gX l yL_accountAnew vL_accountAnew 8 136 D cy B0 [.ref (ad 0), .int (iI (b)), .int (iI (c)), .ref o] (kW cy ad bk S (I, cX, qX) G) (hpQ D cy ad (pAnew S b c).2.2 G o (pAnew S b c).1 ((pAnew S b c).2.1)) (fun _ => False) (kTc (nE (pAnew S b c).2.2) - kTc (nE S) + 16) (kTs (nE (pAnew S b c).2.2) - kTs (nE S) + 400) := by
  refine g_startXH (cc := cL_accountAnew) (maxL := 5) (ret := (some .int)) (hh := [(0, 9, 12, 13)]) (by decide) rfl (Nat.le_of_ble_eq_true rfl) ?_
  intro p_ e_ s_ m_ be_ me_ co_ ls H locs K hr hlk hnm ht hK hW hl
  obtain ⟨hx, hb, hml, hown, hts⟩ := id K
  have hl : lv_has ls 5 [(0, .ref (ad 0)), (1, .int (iI (b))), (2, .int (iI (c))), (3, .ref o)] := hl
  refine lv_aload_n hx hb dL_accountAnew_0 rfl (lv_at hl 3 rfl) ?_
  refine xi_iconst hx hb dL_accountAnew_1 ?_
  refine lv_aload_n hx hb dL_accountAnew_2 rfl (lv_at hl 0 rfl) ?_
  refine lv_iload_n hx hb dL_accountAnew_3 rfl (lv_at hl 1 rfl) ?_
  refine lv_iload_n hx hb dL_accountAnew_4 rfl (lv_at hl 2 rfl) ?_
  refine g_xcallV (i := 100000 + 0) (As := [.int (iI (b)), .int (iI (c))]) (rest := [.int (iI (0)), .ref o]) K (c_X11_accountAnew b c hwf h_b h_c ho hlw he hG0 hG2 hG3 hP0 hE0 hsm hst) (cwV 2 hts (gd_T gL_X11_accountAnew) rfl rfl rfl (by decide +kernel) ⟨Nat.le_of_ble_eq_true rfl, Nat.le_of_ble_eq_true rfl⟩) hK hW (kW_at rfl) rfl rfl hl.1 rfl (Nat.le_of_ble_eq_true rfl) dL_accountAnew_5 ⟨Nat.le_of_eq (Nat.zero_add _), Nat.le_of_eq (Nat.zero_add _)⟩ (fun E_ ce_ q9_ H1 locs1 hE hW1 h1_ h2_ h3_ => ?_) (fun v_ f_ H locs hp hW => ?_)
  · obtain ⟨hs, rfl⟩ := hE
    have hne : (pAnew S b c).2.2 = S := by unfold pAnew at hs ⊢; rw [if_neg (sGo_n hs (by decide))]
    refine vx_catch (own := RL) (name := "java/lang/IndexOutOfBoundsException") (E := "java/lang/IndexOutOfBoundsException") hown ([] : List ExceptionTableEntry) ⟨0, 9, 12, 13⟩ [] ht (fun z hz => nomatch hz) rfl (by decide) (hts _ (List.mem_cons_of_mem _ wK_14)) (va_Nw.use rfl (hK.2.1 _ (List.mem_of_getElem? (i := 11) rfl))) h1_ h2_ h3_ ?_
    refine lv_astore (lv' := [(4, .ref q9_), (0, .ref (ad 0)), (1, .int (iI (b))), (2, .int (iI (c))), (3, .ref o)]) hx hb dL_accountAnew_12 hl (by decide) rfl (fun ls hl => ?_)
    refine xi_iconst hx hb dL_accountAnew_14 ?_
    exact W.widen (by first | omega | (dsimp only; omega)) (by first | omega | (dsimp only; omega)) (vx_ret (g_iret hx hb hr hW1 ⟨by rw [hs], ad, bk, I, cX, qX, v0, rfl, fun h => hP0 (by rw [hne] at h; exact h), fun h => hE0 (by rw [hne] at h; exact h), fun h => absurd (hs.symm.trans h) (by decide), by rw [hne, gup_id hGo]⟩ dL_accountAnew_15 hlk))
  · obtain ⟨hz, ad2, bk2, I2, c2, q2, ha0, hPn, hEn, hpv, hpe⟩ := hp
    rw [hpe] at hW
    subst hpv
    refine g_last hx hb hK hW 99999 (show kW cy ad2 bk2 (pAnew S b c).2.2 (I2, c2, q2) G 99999 = _ from hGo) (j := iI 0) (x := (pAnew S b c).2.1) (iI_in (by decide) (by decide) (by decide)) dL_accountAnew_8 (fun H locs hW => ?_)
    rw [kW_gup (by decide)] at hW
    refine lv_goto (tgt := 16) hx hb dL_accountAnew_9 (by decide) ?_
    refine xi_iconst hx hb dL_accountAnew_16 ?_
    exact W.widen (by first | omega | (dsimp only; omega)) (by first | omega | (dsimp only; omega)) (vx_ret (g_iret hx hb hr hW ⟨by rw [hz], ad2, bk2, I2, c2, q2, _, ha0, hPn, hEn, fun _ => updL_0, rfl⟩ dL_accountAnew_17 hlk))
set_option maxHeartbeats 4000000 in
set_option maxRecDepth 100000 in
theorem c_L_paid {l : Launch} {D : va_G} {cy : Nat → ClassId} {B0 : Nat} {ad bk : Nat → Nat} {S : ST} {I : Int → Bool} {cX qX : Int → Int64} {G : gF} (b : Int) (u : Int) (c : Int) (hwf : wf S) (h_b : rI b) (h_u : rI u) (h_c : rI c) (ho : okS S) (hlw : legW S) (he : S.1 31 0 + cNF S < 19900) (hG0 : G 50001 = none) (hG2 : G 50002 = none) (hG3 : G 50003 = none) (hP0 : nP S = 0 → ad 11 = D.1 21) (hE0 : nE S = 0 → bk 10 = D.1 21)  (hst : l.stackTraces = false) {o : Nat} {v0 : Nat → Int64} (hGo : G 99999 = some (o, outE cy v0)) : gX l yL_paid vL_paid 8 126 D cy B0 [.ref (ad 0), .int (iI (b)), .int (iI (u)), .int (iI (c)), .ref o] (kW cy ad bk S (I, cX, qX) G) (hpQ D cy ad (pPaid S b u c).2.2 G o (pPaid S b u c).1 ((pPaid S b u c).2.1)) (fun _ => False) (kTc (nE (pPaid S b u c).2.2) - kTc (nE S) + 16) (kTs (nE (pPaid S b u c).2.2) - kTs (nE S) + 400) := by
  refine g_startXH (cc := cL_paid) (maxL := 6) (ret := (some .int)) (hh := [(0, 11, 14, 13)]) (by decide) rfl (Nat.le_of_ble_eq_true rfl) ?_
  intro p_ e_ s_ m_ be_ me_ co_ ls H locs K hr hlk hnm ht hK hW hl
  obtain ⟨hx, hb, hml, hown, hts⟩ := id K
  have hl : lv_has ls 6 [(0, .ref (ad 0)), (1, .int (iI (b))), (2, .int (iI (u))), (3, .int (iI (c))), (4, .ref o)] := hl
  refine lv_aload hx hb dL_paid_0 (lv_at hl 4 rfl) ?_
  refine xi_iconst hx hb dL_paid_2 ?_
  refine lv_aload_n hx hb dL_paid_3 rfl (lv_at hl 0 rfl) ?_
  refine lv_iload_n hx hb dL_paid_4 rfl (lv_at hl 1 rfl) ?_
  refine lv_iload_n hx hb dL_paid_5 rfl (lv_at hl 2 rfl) ?_
  refine lv_iload_n hx hb dL_paid_6 rfl (lv_at hl 3 rfl) ?_
  refine g_xcallV (i := 100000 + 0) (As := [.int (iI (b)), .int (iI (u)), .int (iI (c))]) (rest := [.int (iI (0)), .ref o]) K (c_X11_paid b u c hwf h_b h_u h_c ho hlw he hG0 hG2 hG3 hP0 hE0 hst) (cwV 3 hts (gd_T gL_X11_paid) rfl rfl rfl (by decide +kernel) ⟨Nat.le_of_ble_eq_true rfl, Nat.le_of_ble_eq_true rfl⟩) hK hW (kW_at rfl) rfl rfl hl.1 rfl (Nat.le_of_ble_eq_true rfl) dL_paid_7 ⟨Nat.le_of_eq (Nat.zero_add _), Nat.le_of_eq (Nat.zero_add _)⟩ (fun E_ ce_ q9_ H1 locs1 hE hW1 h1_ h2_ h3_ => ?_) (fun v_ f_ H locs hp hW => ?_)
  · obtain ⟨hs, rfl⟩ := hE
    have hne : (pPaid S b u c).2.2 = S := by unfold pPaid at hs ⊢; rw [if_neg (sGo_n hs (by decide))]
    refine vx_catch (own := RL) (name := "java/lang/IndexOutOfBoundsException") (E := "java/lang/IndexOutOfBoundsException") hown ([] : List ExceptionTableEntry) ⟨0, 11, 14, 13⟩ [] ht (fun z hz => nomatch hz) rfl (by decide) (hts _ (List.mem_cons_of_mem _ wK_14)) (va_Nw.use rfl (hK.2.1 _ (List.mem_of_getElem? (i := 11) rfl))) h1_ h2_ h3_ ?_
    refine lv_astore (lv' := [(5, .ref q9_), (0, .ref (ad 0)), (1, .int (iI (b))), (2, .int (iI (u))), (3, .int (iI (c))), (4, .ref o)]) hx hb dL_paid_14 hl (by decide) rfl (fun ls hl => ?_)
    refine xi_iconst hx hb dL_paid_16 ?_
    exact W.widen (by first | omega | (dsimp only; omega)) (by first | omega | (dsimp only; omega)) (vx_ret (g_iret hx hb hr hW1 ⟨by rw [hs], ad, bk, I, cX, qX, v0, rfl, fun h => hP0 (by rw [hne] at h; exact h), fun h => hE0 (by rw [hne] at h; exact h), fun h => absurd (hs.symm.trans h) (by decide), by rw [hne, gup_id hGo]⟩ dL_paid_17 hlk))
  · obtain ⟨hz, ad2, bk2, I2, c2, q2, ha0, hPn, hEn, hpv, hpe⟩ := hp
    rw [hpe] at hW
    subst hpv
    refine g_last hx hb hK hW 99999 (show kW cy ad2 bk2 (pPaid S b u c).2.2 (I2, c2, q2) G 99999 = _ from hGo) (j := iI 0) (x := (pPaid S b u c).2.1) (iI_in (by decide) (by decide) (by decide)) dL_paid_10 (fun H locs hW => ?_)
    rw [kW_gup (by decide)] at hW
    refine lv_goto (tgt := 18) hx hb dL_paid_11 (by decide) ?_
    refine xi_iconst hx hb dL_paid_18 ?_
    exact W.widen (by first | omega | (dsimp only; omega)) (by first | omega | (dsimp only; omega)) (vx_ret (g_iret hx hb hr hW ⟨by rw [hz], ad2, bk2, I2, c2, q2, _, ha0, hPn, hEn, fun _ => updL_0, rfl⟩ dL_paid_19 hlk))
set_option maxHeartbeats 4000000 in
set_option maxRecDepth 100000 in
theorem c_L_stateOf {l : Launch} {D : va_G} {cy : Nat → ClassId} {B0 : Nat} {ad bk : Nat → Nat} {S : ST} {I : Int → Bool} {cX qX : Int → Int64} {G : gF} (k : Int) (hwf : wf S) (h_k : rI k) (ho : okS S) (hlw : legW S) (he : S.1 31 0 + cNF S < 19900) (hG0 : G 50001 = none) (hG2 : G 50002 = none) (hG3 : G 50003 = none) (hP0 : nP S = 0 → ad 11 = D.1 21) (hE0 : nE S = 0 → bk 10 = D.1 21)  (hst : l.stackTraces = false) {o : Nat} {v0 : Nat → Int64} (hGo : G 99999 = some (o, outE cy v0)) : gX l yL_stateOf vL_stateOf 8 152 D cy B0 [.ref (ad 0), .int (iI (k)), .ref o] (kW cy ad bk S (I, cX, qX) G) (hpQ D cy ad (pStat S k).2.2 G o (pStat S k).1 ((iI (pStat S k).2.1).toInt64)) (fun _ => False) (kTc (nE (pStat S k).2.2) - kTc (nE S) + 16) (kTs (nE (pStat S k).2.2) - kTs (nE S) + 400) := by
  refine g_startXH (cc := cL_stateOf) (maxL := 4) (ret := (some .int)) (hh := [(0, 9, 12, 13)]) (by decide) rfl (Nat.le_of_ble_eq_true rfl) ?_
  intro p_ e_ s_ m_ be_ me_ co_ ls H locs K hr hlk hnm ht hK hW hl
  obtain ⟨hx, hb, hml, hown, hts⟩ := id K
  have hl : lv_has ls 4 [(0, .ref (ad 0)), (1, .int (iI (k))), (2, .ref o)] := hl
  refine lv_aload_n hx hb dL_stateOf_0 rfl (lv_at hl 2 rfl) ?_
  refine xi_iconst hx hb dL_stateOf_1 ?_
  refine lv_aload_n hx hb dL_stateOf_2 rfl (lv_at hl 0 rfl) ?_
  refine lv_iload_n hx hb dL_stateOf_3 rfl (lv_at hl 1 rfl) ?_
  refine g_xcallV (i := 100000 + 0) (As := [.int (iI (k))]) (rest := [.int (iI (0)), .ref o]) K (c_X11_stateOf k hwf h_k ho hlw he hG0 hG2 hG3 hP0 hE0 hst) (cwV 1 hts (gd_T gL_X11_stateOf) rfl rfl rfl (by decide +kernel) ⟨Nat.le_of_ble_eq_true rfl, Nat.le_of_ble_eq_true rfl⟩) hK hW (kW_at rfl) rfl rfl hl.1 rfl (Nat.le_of_ble_eq_true rfl) dL_stateOf_4 ⟨Nat.le_of_eq (Nat.zero_add _), Nat.le_of_eq (Nat.zero_add _)⟩ (fun E_ ce_ q9_ H1 locs1 hE hW1 h1_ h2_ h3_ => ?_) (fun v_ f_ H locs hp hW => ?_)
  · obtain ⟨hs, rfl⟩ := hE
    have hne : (pStat S k).2.2 = S := by unfold pStat at hs ⊢; rw [if_neg (sGo_n hs (by decide))]
    refine vx_catch (own := RL) (name := "java/lang/IndexOutOfBoundsException") (E := "java/lang/IndexOutOfBoundsException") hown ([] : List ExceptionTableEntry) ⟨0, 9, 12, 13⟩ [] ht (fun z hz => nomatch hz) rfl (by decide) (hts _ (List.mem_cons_of_mem _ wK_14)) (va_Nw.use rfl (hK.2.1 _ (List.mem_of_getElem? (i := 11) rfl))) h1_ h2_ h3_ ?_
    refine lv_astore_n (lv' := [(3, .ref q9_), (0, .ref (ad 0)), (1, .int (iI (k))), (2, .ref o)]) hx hb dL_stateOf_12 rfl hl (by decide) rfl (fun ls hl => ?_)
    refine xi_iconst hx hb dL_stateOf_13 ?_
    exact W.widen (by first | omega | (dsimp only; omega)) (by first | omega | (dsimp only; omega)) (vx_ret (g_iret hx hb hr hW1 ⟨by rw [hs], ad, bk, I, cX, qX, v0, rfl, fun h => hP0 (by rw [hne] at h; exact h), fun h => hE0 (by rw [hne] at h; exact h), fun h => absurd (hs.symm.trans h) (by decide), by rw [hne, gup_id hGo]⟩ dL_stateOf_14 hlk))
  · obtain ⟨hz, ad2, bk2, I2, c2, q2, ha0, hPn, hEn, hpv, hpe⟩ := hp
    rw [hpe] at hW
    subst hpv
    refine lv_i2l hx hb dL_stateOf_7 rfl ?_
    refine g_last hx hb hK hW 99999 (show kW cy ad2 bk2 (pStat S k).2.2 (I2, c2, q2) G 99999 = _ from hGo) (j := iI 0) (x := (iI (pStat S k).2.1).toInt64) (iI_in (by decide) (by decide) (by decide)) dL_stateOf_8 (fun H locs hW => ?_)
    rw [kW_gup (by decide)] at hW
    refine lv_goto (tgt := 15) hx hb dL_stateOf_9 (by decide) ?_
    refine xi_iconst hx hb dL_stateOf_15 ?_
    exact W.widen (by first | omega | (dsimp only; omega)) (by first | omega | (dsimp only; omega)) (vx_ret (g_iret hx hb hr hW ⟨by rw [hz], ad2, bk2, I2, c2, q2, _, ha0, hPn, hEn, fun _ => updL_0, rfl⟩ dL_stateOf_16 hlk))
set_option maxHeartbeats 4000000 in
set_option maxRecDepth 100000 in
theorem c_L_queueAt {l : Launch} {D : va_G} {cy : Nat → ClassId} {B0 : Nat} {ad bk : Nat → Nat} {S : ST} {I : Int → Bool} {cX qX : Int → Int64} {G : gF} (b : Int) (c : Int) (p : Int) (hwf : wf S) (h_b : rI b) (h_c : rI c) (h_p : rI p) (ho : okS S) (hlw : legW S) (he : S.1 31 0 + cNF S < 19900) (hG0 : G 50001 = none) (hG2 : G 50002 = none) (hG3 : G 50003 = none) (hP0 : nP S = 0 → ad 11 = D.1 21) (hE0 : nE S = 0 → bk 10 = D.1 21)  (hst : l.stackTraces = false) {o : Nat} {v0 : Nat → Int64} (hGo : G 99999 = some (o, outE cy v0)) : gX l yL_queueAt vL_queueAt 8 162 D cy B0 [.ref (ad 0), .int (iI (b)), .int (iI (c)), .int (iI (p)), .ref o] (kW cy ad bk S (I, cX, qX) G) (hpQ D cy ad (pQue S b c p).2.2 G o (pQue S b c p).1 ((iI (pQue S b c p).2.1).toInt64)) (fun _ => False) (kTc (nE (pQue S b c p).2.2) - kTc (nE S) + 16) (kTs (nE (pQue S b c p).2.2) - kTs (nE S) + 400) := by
  refine g_startXH (cc := cL_queueAt) (maxL := 6) (ret := (some .int)) (hh := [(0, 12, 15, 13)]) (by decide) rfl (Nat.le_of_ble_eq_true rfl) ?_
  intro p_ e_ s_ m_ be_ me_ co_ ls H locs K hr hlk hnm ht hK hW hl
  obtain ⟨hx, hb, hml, hown, hts⟩ := id K
  have hl : lv_has ls 6 [(0, .ref (ad 0)), (1, .int (iI (b))), (2, .int (iI (c))), (3, .int (iI (p))), (4, .ref o)] := hl
  refine lv_aload hx hb dL_queueAt_0 (lv_at hl 4 rfl) ?_
  refine xi_iconst hx hb dL_queueAt_2 ?_
  refine lv_aload_n hx hb dL_queueAt_3 rfl (lv_at hl 0 rfl) ?_
  refine lv_iload_n hx hb dL_queueAt_4 rfl (lv_at hl 1 rfl) ?_
  refine lv_iload_n hx hb dL_queueAt_5 rfl (lv_at hl 2 rfl) ?_
  refine lv_iload_n hx hb dL_queueAt_6 rfl (lv_at hl 3 rfl) ?_
  refine g_xcallV (i := 100000 + 0) (As := [.int (iI (b)), .int (iI (c)), .int (iI (p))]) (rest := [.int (iI (0)), .ref o]) K (c_X11_queueAt b c p hwf h_b h_c h_p ho hlw he hG0 hG2 hG3 hP0 hE0 hst) (cwV 3 hts (gd_T gL_X11_queueAt) rfl rfl rfl (by decide +kernel) ⟨Nat.le_of_ble_eq_true rfl, Nat.le_of_ble_eq_true rfl⟩) hK hW (kW_at rfl) rfl rfl hl.1 rfl (Nat.le_of_ble_eq_true rfl) dL_queueAt_7 ⟨Nat.le_of_eq (Nat.zero_add _), Nat.le_of_eq (Nat.zero_add _)⟩ (fun E_ ce_ q9_ H1 locs1 hE hW1 h1_ h2_ h3_ => ?_) (fun v_ f_ H locs hp hW => ?_)
  · obtain ⟨hs, rfl⟩ := hE
    have hne : (pQue S b c p).2.2 = S := by unfold pQue at hs ⊢; rw [if_neg (sGo_n hs (by decide))]
    refine vx_catch (own := RL) (name := "java/lang/IndexOutOfBoundsException") (E := "java/lang/IndexOutOfBoundsException") hown ([] : List ExceptionTableEntry) ⟨0, 12, 15, 13⟩ [] ht (fun z hz => nomatch hz) rfl (by decide) (hts _ (List.mem_cons_of_mem _ wK_14)) (va_Nw.use rfl (hK.2.1 _ (List.mem_of_getElem? (i := 11) rfl))) h1_ h2_ h3_ ?_
    refine lv_astore (lv' := [(5, .ref q9_), (0, .ref (ad 0)), (1, .int (iI (b))), (2, .int (iI (c))), (3, .int (iI (p))), (4, .ref o)]) hx hb dL_queueAt_15 hl (by decide) rfl (fun ls hl => ?_)
    refine xi_iconst hx hb dL_queueAt_17 ?_
    exact W.widen (by first | omega | (dsimp only; omega)) (by first | omega | (dsimp only; omega)) (vx_ret (g_iret hx hb hr hW1 ⟨by rw [hs], ad, bk, I, cX, qX, v0, rfl, fun h => hP0 (by rw [hne] at h; exact h), fun h => hE0 (by rw [hne] at h; exact h), fun h => absurd (hs.symm.trans h) (by decide), by rw [hne, gup_id hGo]⟩ dL_queueAt_18 hlk))
  · obtain ⟨hz, ad2, bk2, I2, c2, q2, ha0, hPn, hEn, hpv, hpe⟩ := hp
    rw [hpe] at hW
    subst hpv
    refine lv_i2l hx hb dL_queueAt_10 rfl ?_
    refine g_last hx hb hK hW 99999 (show kW cy ad2 bk2 (pQue S b c p).2.2 (I2, c2, q2) G 99999 = _ from hGo) (j := iI 0) (x := (iI (pQue S b c p).2.1).toInt64) (iI_in (by decide) (by decide) (by decide)) dL_queueAt_11 (fun H locs hW => ?_)
    rw [kW_gup (by decide)] at hW
    refine lv_goto (tgt := 19) hx hb dL_queueAt_12 (by decide) ?_
    refine xi_iconst hx hb dL_queueAt_19 ?_
    exact W.widen (by first | omega | (dsimp only; omega)) (by first | omega | (dsimp only; omega)) (vx_ret (g_iret hx hb hr hW ⟨by rw [hz], ad2, bk2, I2, c2, q2, _, ha0, hPn, hEn, fun _ => updL_0, rfl⟩ dL_queueAt_20 hlk))
set_option maxHeartbeats 4000000 in
set_option maxRecDepth 100000 in
theorem c_L_entryAt {l : Launch} {D : va_G} {cy : Nat → ClassId} {B0 : Nat} {ad bk : Nat → Nat} {S : ST} {I : Int → Bool} {cX qX : Int → Int64} {G : gF} (k : Int) (j : Int) (hwf : wf S) (h_k : rI k) (h_j : rI j) (ho : okS S) (hlw : legW S) (he : S.1 31 0 + cNF S < 19900) (hG0 : G 50001 = none) (hG2 : G 50002 = none) (hG3 : G 50003 = none) (hP0 : nP S = 0 → ad 11 = D.1 21) (hE0 : nE S = 0 → bk 10 = D.1 21) (hsm : smE S) (hst : l.stackTraces = false) {o : Nat} {v0 : Nat → Int64} (hGo : G 99999 = some (o, outE cy v0)) : gX l yL_entryAt vL_entryAt 8 132 D cy B0 [.ref (ad 0), .int (iI (k)), .int (iI (j)), .ref o] (kW cy ad bk S (I, cX, qX) G) (hpQ D cy ad (pEnt S k j).2.2 G o (pEnt S k j).1 ((pEnt S k j).2.1)) (fun _ => False) (kTc (nE (pEnt S k j).2.2) - kTc (nE S) + 16) (kTs (nE (pEnt S k j).2.2) - kTs (nE S) + 400) := by
  refine g_startXH (cc := cL_entryAt) (maxL := 5) (ret := (some .int)) (hh := [(0, 9, 12, 13), (0, 9, 16, 15)]) (by decide) rfl (Nat.le_of_ble_eq_true rfl) ?_
  intro p_ e_ s_ m_ be_ me_ co_ ls H locs K hr hlk hnm ht hK hW hl
  obtain ⟨hx, hb, hml, hown, hts⟩ := id K
  have hl : lv_has ls 5 [(0, .ref (ad 0)), (1, .int (iI (k))), (2, .int (iI (j))), (3, .ref o)] := hl
  refine lv_aload_n hx hb dL_entryAt_0 rfl (lv_at hl 3 rfl) ?_
  refine xi_iconst hx hb dL_entryAt_1 ?_
  refine lv_aload_n hx hb dL_entryAt_2 rfl (lv_at hl 0 rfl) ?_
  refine lv_iload_n hx hb dL_entryAt_3 rfl (lv_at hl 1 rfl) ?_
  refine lv_iload_n hx hb dL_entryAt_4 rfl (lv_at hl 2 rfl) ?_
  refine g_xcallV (i := 100000 + 0) (As := [.int (iI (k)), .int (iI (j))]) (rest := [.int (iI (0)), .ref o]) K (c_X11_entryAt k j hwf h_k h_j ho hlw he hG0 hG2 hG3 hP0 hE0 hsm hst) (cwV 2 hts (gd_T gL_X11_entryAt) rfl rfl rfl (by decide +kernel) ⟨Nat.le_of_ble_eq_true rfl, Nat.le_of_ble_eq_true rfl⟩) hK hW (kW_at rfl) rfl rfl hl.1 rfl (Nat.le_of_ble_eq_true rfl) dL_entryAt_5 ⟨Nat.le_of_eq (Nat.zero_add _), Nat.le_of_eq (Nat.zero_add _)⟩ (fun E_ ce_ q9_ H1 locs1 hE hW1 h1_ h2_ h3_ => ?_) (fun v_ f_ H locs hp hW => ?_)
  · rcases hE with ⟨hs, rfl⟩ | ⟨hs, rfl⟩
    · have hne : (pEnt S k j).2.2 = S := by unfold pEnt at hs ⊢; rw [if_neg (sGo_n hs (by decide))]
      refine vx_catch (own := RL) (name := "java/lang/IndexOutOfBoundsException") (E := "java/lang/IndexOutOfBoundsException") hown ([] : List ExceptionTableEntry) ⟨0, 9, 12, 13⟩ [⟨0, 9, 16, 15⟩] ht (fun z hz => nomatch hz) rfl (by decide) (hts _ (List.mem_cons_of_mem _ wK_14)) (va_Nw.use rfl (hK.2.1 _ (List.mem_of_getElem? (i := 11) rfl))) h1_ h2_ h3_ ?_
      refine lv_astore (lv' := [(4, .ref q9_), (0, .ref (ad 0)), (1, .int (iI (k))), (2, .int (iI (j))), (3, .ref o)]) hx hb dL_entryAt_12 hl (by decide) rfl (fun ls hl => ?_)
      refine xi_iconst hx hb dL_entryAt_14 ?_
      exact W.widen (by first | omega | (dsimp only; omega)) (by first | omega | (dsimp only; omega)) (vx_ret (g_iret hx hb hr hW1 ⟨by rw [hs], ad, bk, I, cX, qX, v0, rfl, fun h => hP0 (by rw [hne] at h; exact h), fun h => hE0 (by rw [hne] at h; exact h), fun h => absurd (hs.symm.trans h) (by decide), by rw [hne, gup_id hGo]⟩ dL_entryAt_15 hlk))
    · have hne : (pEnt S k j).2.2 = S := by unfold pEnt at hs ⊢; rw [if_neg (sGo_n hs (by decide))]
      refine vx_catch (own := RL) (name := "java/lang/IllegalArgumentException") (E := "java/lang/IllegalArgumentException") hown ([⟨0, 9, 12, 13⟩] : List ExceptionTableEntry) ⟨0, 9, 16, 15⟩ [] ht (fun z hz => by rw [List.mem_singleton] at hz; subst hz; exact Or.inr ⟨by decide, _, hts _ (List.mem_cons_of_mem _ wK_14), hK.2.2.2.2.2.2.2 _ (List.mem_of_getElem? (l := gXc) (i := 0) rfl)⟩) rfl (by decide) (hts _ (List.mem_cons_of_mem _ wK_15)) (va_Nw.use rfl (hK.2.1 _ (List.mem_of_getElem? (i := 12) rfl))) h1_ h2_ h3_ ?_
      refine lv_astore (lv' := [(4, .ref q9_), (0, .ref (ad 0)), (1, .int (iI (k))), (2, .int (iI (j))), (3, .ref o)]) hx hb dL_entryAt_16 hl (by decide) rfl (fun ls hl => ?_)
      refine xi_iconst hx hb dL_entryAt_18 ?_
      exact W.widen (by first | omega | (dsimp only; omega)) (by first | omega | (dsimp only; omega)) (vx_ret (g_iret hx hb hr hW1 ⟨by rw [hs], ad, bk, I, cX, qX, v0, rfl, fun h => hP0 (by rw [hne] at h; exact h), fun h => hE0 (by rw [hne] at h; exact h), fun h => absurd (hs.symm.trans h) (by decide), by rw [hne, gup_id hGo]⟩ dL_entryAt_19 hlk))
  · obtain ⟨hz, ad2, bk2, I2, c2, q2, ha0, hPn, hEn, hpv, hpe⟩ := hp
    rw [hpe] at hW
    subst hpv
    refine g_last hx hb hK hW 99999 (show kW cy ad2 bk2 (pEnt S k j).2.2 (I2, c2, q2) G 99999 = _ from hGo) (j := iI 0) (x := (pEnt S k j).2.1) (iI_in (by decide) (by decide) (by decide)) dL_entryAt_8 (fun H locs hW => ?_)
    rw [kW_gup (by decide)] at hW
    refine lv_goto (tgt := 20) hx hb dL_entryAt_9 (by decide) ?_
    refine xi_iconst hx hb dL_entryAt_20 ?_
    exact W.widen (by first | omega | (dsimp only; omega)) (by first | omega | (dsimp only; omega)) (vx_ret (g_iret hx hb hr hW ⟨by rw [hz], ad2, bk2, I2, c2, q2, _, ha0, hPn, hEn, fun _ => updL_0, rfl⟩ dL_entryAt_21 hlk))
set_option maxHeartbeats 4000000 in
set_option maxRecDepth 100000 in
theorem c_L_advice {l : Launch} {D : va_G} {cy : Nat → ClassId} {B0 : Nat} {ad bk : Nat → Nat} {S : ST} {I : Int → Bool} {cX qX : Int → Int64} {G : gF} (b : Int) (hwf : wf S) (h_b : rI b) (ho : okS S) (hlw : legW S) (he : S.1 31 0 + cNF S < 19900) (hG0 : G 50001 = none) (hG2 : G 50002 = none) (hG3 : G 50003 = none) (hP0 : nP S = 0 → ad 11 = D.1 21) (hE0 : nE S = 0 → bk 10 = D.1 21) (hto : toldI S) (htk : takI S) (hst : l.stackTraces = false) {o : Nat} {v0 : Nat → Int64} (hGo : G 99999 = some (o, outE cy v0)) : gX l yL_advice vL_advice 8 124 D cy B0 [.ref (ad 0), .int (iI (b)), .ref o] (kW cy ad bk S (I, cX, qX) G) (hpQ D cy ad (pAdv S b).2.2 G o (pAdv S b).1 ((iI (pAdv S b).2.1).toInt64)) (fun _ => False) (kTc (nE (pAdv S b).2.2) - kTc (nE S) + 16) (kTs (nE (pAdv S b).2.2) - kTs (nE S) + 400) := by
  refine g_startXH (cc := cL_advice) (maxL := 4) (ret := (some .int)) (hh := [(0, 9, 12, 13)]) (by decide) rfl (Nat.le_of_ble_eq_true rfl) ?_
  intro p_ e_ s_ m_ be_ me_ co_ ls H locs K hr hlk hnm ht hK hW hl
  obtain ⟨hx, hb, hml, hown, hts⟩ := id K
  have hl : lv_has ls 4 [(0, .ref (ad 0)), (1, .int (iI (b))), (2, .ref o)] := hl
  refine lv_aload_n hx hb dL_advice_0 rfl (lv_at hl 2 rfl) ?_
  refine xi_iconst hx hb dL_advice_1 ?_
  refine lv_aload_n hx hb dL_advice_2 rfl (lv_at hl 0 rfl) ?_
  refine lv_iload_n hx hb dL_advice_3 rfl (lv_at hl 1 rfl) ?_
  refine g_xcallV (i := 100000 + 0) (As := [.int (iI (b))]) (rest := [.int (iI (0)), .ref o]) K (c_X11_advice b hwf h_b ho hlw he hG0 hG2 hG3 hP0 hE0 hto htk hst) (cwV 1 hts (gd_T gL_X11_advice) rfl rfl rfl (by decide +kernel) ⟨Nat.le_of_ble_eq_true rfl, Nat.le_of_ble_eq_true rfl⟩) hK hW (kW_at rfl) rfl rfl hl.1 rfl (Nat.le_of_ble_eq_true rfl) dL_advice_4 ⟨Nat.le_of_eq (Nat.zero_add _), Nat.le_of_eq (Nat.zero_add _)⟩ (fun E_ ce_ q9_ H1 locs1 hE hW1 h1_ h2_ h3_ => ?_) (fun v_ f_ H locs hp hW => ?_)
  · obtain ⟨hs, rfl⟩ := hE
    have hne : (pAdv S b).2.2 = S := by unfold pAdv at hs ⊢; rw [if_neg (sGo_n hs (by decide))]
    refine vx_catch (own := RL) (name := "java/lang/IndexOutOfBoundsException") (E := "java/lang/IndexOutOfBoundsException") hown ([] : List ExceptionTableEntry) ⟨0, 9, 12, 13⟩ [] ht (fun z hz => nomatch hz) rfl (by decide) (hts _ (List.mem_cons_of_mem _ wK_14)) (va_Nw.use rfl (hK.2.1 _ (List.mem_of_getElem? (i := 11) rfl))) h1_ h2_ h3_ ?_
    refine lv_astore_n (lv' := [(3, .ref q9_), (0, .ref (ad 0)), (1, .int (iI (b))), (2, .ref o)]) hx hb dL_advice_12 rfl hl (by decide) rfl (fun ls hl => ?_)
    refine xi_iconst hx hb dL_advice_13 ?_
    exact W.widen (by first | omega | (dsimp only; omega)) (by first | omega | (dsimp only; omega)) (vx_ret (g_iret hx hb hr hW1 ⟨by rw [hs], ad, bk, I, cX, qX, v0, rfl, fun h => hP0 (by rw [hne] at h; exact h), fun h => hE0 (by rw [hne] at h; exact h), fun h => absurd (hs.symm.trans h) (by decide), by rw [hne, gup_id hGo]⟩ dL_advice_14 hlk))
  · obtain ⟨hz, ad2, bk2, I2, c2, q2, ha0, hPn, hEn, hpv, hpe⟩ := hp
    rw [hpe] at hW
    subst hpv
    refine lv_i2l hx hb dL_advice_7 rfl ?_
    refine g_last hx hb hK hW 99999 (show kW cy ad2 bk2 (pAdv S b).2.2 (I2, c2, q2) G 99999 = _ from hGo) (j := iI 0) (x := (iI (pAdv S b).2.1).toInt64) (iI_in (by decide) (by decide) (by decide)) dL_advice_8 (fun H locs hW => ?_)
    rw [kW_gup (by decide)] at hW
    refine lv_goto (tgt := 15) hx hb dL_advice_9 (by decide) ?_
    refine xi_iconst hx hb dL_advice_15 ?_
    exact W.widen (by first | omega | (dsimp only; omega)) (by first | omega | (dsimp only; omega)) (vx_ret (g_iret hx hb hr hW ⟨by rw [hz], ad2, bk2, I2, c2, q2, _, ha0, hPn, hEn, fun _ => updL_0, rfl⟩ dL_advice_16 hlk))
set_option maxHeartbeats 4000000 in
set_option maxRecDepth 100000 in
theorem c_L_again {l : Launch} {D : va_G} {cy : Nat → ClassId} {B0 : Nat} {ad bk : Nat → Nat} {S : ST} {I : Int → Bool} {cX qX : Int → Int64} {G : gF} (b : Int) (y : Int) (hwf : wf S) (h_b : rI b) (h_y : rI y) (ho : okS S) (hlw : legW S) (he : S.1 31 0 + cNF S < 19900) (hG0 : G 50001 = none) (hG2 : G 50002 = none) (hG3 : G 50003 = none) (hP0 : nP S = 0 → ad 11 = D.1 21) (hE0 : nE S = 0 → bk 10 = D.1 21) (hto : toldI S) (hst : l.stackTraces = false) {o : Nat} {v0 : Nat → Int64} (hGo : G 99999 = some (o, outE cy v0)) : gX l yL_again vL_again 8 126 D cy B0 [.ref (ad 0), .int (iI (b)), .int (iI (y)), .ref o] (kW cy ad bk S (I, cX, qX) G) (hpQ D cy ad (pAga S b y).2.2 G o (pAga S b y).1 ((iI (pAga S b y).2.1).toInt64)) (fun _ => False) (kTc (nE (pAga S b y).2.2) - kTc (nE S) + 16) (kTs (nE (pAga S b y).2.2) - kTs (nE S) + 400) := by
  refine g_startXH (cc := cL_again) (maxL := 5) (ret := (some .int)) (hh := [(0, 10, 13, 13), (0, 10, 17, 15)]) (by decide) rfl (Nat.le_of_ble_eq_true rfl) ?_
  intro p_ e_ s_ m_ be_ me_ co_ ls H locs K hr hlk hnm ht hK hW hl
  obtain ⟨hx, hb, hml, hown, hts⟩ := id K
  have hl : lv_has ls 5 [(0, .ref (ad 0)), (1, .int (iI (b))), (2, .int (iI (y))), (3, .ref o)] := hl
  refine lv_aload_n hx hb dL_again_0 rfl (lv_at hl 3 rfl) ?_
  refine xi_iconst hx hb dL_again_1 ?_
  refine lv_aload_n hx hb dL_again_2 rfl (lv_at hl 0 rfl) ?_
  refine lv_iload_n hx hb dL_again_3 rfl (lv_at hl 1 rfl) ?_
  refine lv_iload_n hx hb dL_again_4 rfl (lv_at hl 2 rfl) ?_
  refine g_xcallV (i := 100000 + 0) (As := [.int (iI (b)), .int (iI (y))]) (rest := [.int (iI (0)), .ref o]) K (c_X11_again b y hwf h_b h_y ho hlw he hG0 hG2 hG3 hP0 hE0 hto hst) (cwV 2 hts (gd_T gL_X11_again) rfl rfl rfl (by decide +kernel) ⟨Nat.le_of_ble_eq_true rfl, Nat.le_of_ble_eq_true rfl⟩) hK hW (kW_at rfl) rfl rfl hl.1 rfl (Nat.le_of_ble_eq_true rfl) dL_again_5 ⟨Nat.le_of_eq (Nat.zero_add _), Nat.le_of_eq (Nat.zero_add _)⟩ (fun E_ ce_ q9_ H1 locs1 hE hW1 h1_ h2_ h3_ => ?_) (fun v_ f_ H locs hp hW => ?_)
  · rcases hE with ⟨hs, rfl⟩ | ⟨hs, rfl⟩
    · have hne : (pAga S b y).2.2 = S := by unfold pAga at hs ⊢; rw [if_neg (sGo_n hs (by decide))]
      refine vx_catch (own := RL) (name := "java/lang/IndexOutOfBoundsException") (E := "java/lang/IndexOutOfBoundsException") hown ([] : List ExceptionTableEntry) ⟨0, 10, 13, 13⟩ [⟨0, 10, 17, 15⟩] ht (fun z hz => nomatch hz) rfl (by decide) (hts _ (List.mem_cons_of_mem _ wK_14)) (va_Nw.use rfl (hK.2.1 _ (List.mem_of_getElem? (i := 11) rfl))) h1_ h2_ h3_ ?_
      refine lv_astore (lv' := [(4, .ref q9_), (0, .ref (ad 0)), (1, .int (iI (b))), (2, .int (iI (y))), (3, .ref o)]) hx hb dL_again_13 hl (by decide) rfl (fun ls hl => ?_)
      refine xi_iconst hx hb dL_again_15 ?_
      exact W.widen (by first | omega | (dsimp only; omega)) (by first | omega | (dsimp only; omega)) (vx_ret (g_iret hx hb hr hW1 ⟨by rw [hs], ad, bk, I, cX, qX, v0, rfl, fun h => hP0 (by rw [hne] at h; exact h), fun h => hE0 (by rw [hne] at h; exact h), fun h => absurd (hs.symm.trans h) (by decide), by rw [hne, gup_id hGo]⟩ dL_again_16 hlk))
    · have hne : (pAga S b y).2.2 = S := by unfold pAga at hs ⊢; rw [if_neg (sGo_n hs (by decide))]
      refine vx_catch (own := RL) (name := "java/lang/IllegalArgumentException") (E := "java/lang/IllegalArgumentException") hown ([⟨0, 10, 13, 13⟩] : List ExceptionTableEntry) ⟨0, 10, 17, 15⟩ [] ht (fun z hz => by rw [List.mem_singleton] at hz; subst hz; exact Or.inr ⟨by decide, _, hts _ (List.mem_cons_of_mem _ wK_14), hK.2.2.2.2.2.2.2 _ (List.mem_of_getElem? (l := gXc) (i := 0) rfl)⟩) rfl (by decide) (hts _ (List.mem_cons_of_mem _ wK_15)) (va_Nw.use rfl (hK.2.1 _ (List.mem_of_getElem? (i := 12) rfl))) h1_ h2_ h3_ ?_
      refine lv_astore (lv' := [(4, .ref q9_), (0, .ref (ad 0)), (1, .int (iI (b))), (2, .int (iI (y))), (3, .ref o)]) hx hb dL_again_17 hl (by decide) rfl (fun ls hl => ?_)
      refine xi_iconst hx hb dL_again_19 ?_
      exact W.widen (by first | omega | (dsimp only; omega)) (by first | omega | (dsimp only; omega)) (vx_ret (g_iret hx hb hr hW1 ⟨by rw [hs], ad, bk, I, cX, qX, v0, rfl, fun h => hP0 (by rw [hne] at h; exact h), fun h => hE0 (by rw [hne] at h; exact h), fun h => absurd (hs.symm.trans h) (by decide), by rw [hne, gup_id hGo]⟩ dL_again_20 hlk))
  · obtain ⟨hz, ad2, bk2, I2, c2, q2, ha0, hPn, hEn, hpv, hpe⟩ := hp
    rw [hpe] at hW
    subst hpv
    refine lv_i2l hx hb dL_again_8 rfl ?_
    refine g_last hx hb hK hW 99999 (show kW cy ad2 bk2 (pAga S b y).2.2 (I2, c2, q2) G 99999 = _ from hGo) (j := iI 0) (x := (iI (pAga S b y).2.1).toInt64) (iI_in (by decide) (by decide) (by decide)) dL_again_9 (fun H locs hW => ?_)
    rw [kW_gup (by decide)] at hW
    refine lv_goto (tgt := 21) hx hb dL_again_10 (by decide) ?_
    refine xi_iconst hx hb dL_again_21 ?_
    exact W.widen (by first | omega | (dsimp only; omega)) (by first | omega | (dsimp only; omega)) (vx_ret (g_iret hx hb hr hW ⟨by rw [hz], ad2, bk2, I2, c2, q2, _, ha0, hPn, hEn, fun _ => updL_0, rfl⟩ dL_again_22 hlk))
