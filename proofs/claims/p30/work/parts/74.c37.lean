set_option maxHeartbeats 4000000 in
set_option maxRecDepth 100000 in
theorem c_X11_fund {l : Launch} {D : va_G} {cy : Nat → ClassId} {B0 : Nat} {ad bk : Nat → Nat} {S : ST} {I : Int → Bool} {cX qX : Int → Int64} {G : gF} (b : Int) (c : Int) (v : Int) (hwf : wf S) (h_b : rI b) (h_c : rI c) (h_v : rI v) (ho : okS S) (hlw : legW S) (he : S.1 31 0 + cNF S < 19900) (hG0 : G 50001 = none) (hG2 : G 50002 = none) (hG3 : G 50003 = none) (hP0 : nP S = 0 → ad 11 = D.1 21) (hE0 : nE S = 0 → bk 10 = D.1 21)  (hst : l.stackTraces = false) : gX l yX11_fund vX11_fund 13 297 D cy B0 [.ref (ad 0), .int (iI (b)), .int (iI (c)), .int (iI (v))] (kW cy ad bk S (I, cX, qX) G) (fun r g_ => (pFund S b c v).1 = 0 ∧ ∃ (ad2 bk2 : Nat → Nat) (I2 : Int → Bool) (c2 q2 : Int → Int64), ad2 0 = ad 0 ∧ (nP (pFund S b c v).2.2 = 0 → ad2 11 = D.1 21) ∧ (nE (pFund S b c v).2.2 = 0 → bk2 10 = D.1 21) ∧ r = some (.long (pFund S b c v).2.1) ∧ g_ = kW cy ad2 bk2 (pFund S b c v).2.2 (I2, c2, q2) G) (fun E_ => ((pFund S b c v).1 = 1 ∧ E_ = xIO) ∨ ((pFund S b c v).1 = 2 ∧ E_ = xIA)) (kTc (nE (pFund S b c v).2.2) - kTc (nE S) + 16) (kTs (nE (pFund S b c v).2.2) - kTs (nE S) + 400) := by
  refine g_startX (cc := cX11_fund) (maxL := 4) (ret := (some .long)) (by decide) rfl (Nat.le_of_ble_eq_true rfl) ?_
  intro p_ e_ s_ m_ be_ me_ co_ ls H locs K hr hlk hnm ht hK hW hl
  obtain ⟨hx, hb, hml, hown, hts⟩ := id K
  have hl : lv_has ls 4 [(0, .ref (ad 0)), (1, .int (iI (b))), (2, .int (iI (c))), (3, .int (iI (v)))] := hl
  have h80 := wf_8 hwf 0
  have h310 := wf_31 hwf 0
  refine lv_iload_n hx hb dX11_fund_0 rfl (lv_at hl 1 rfl) ?_
  refine xi_bipush hx hb dX11_fund_1 (by decide) ?_
  refine g_xcallS (As := [.int (iI (b)), .int (iI (6))]) (rest := []) K (c_X11_needPlace (b) (6) ⟨by omega, by omega⟩ ⟨by omega, by omega⟩ hst) (va_cwS 2 hts gC_X11_16 rfl rfl rfl (by decide +kernel) ⟨Nat.le_of_ble_eq_true rfl, Nat.le_of_ble_eq_true rfl⟩) hK hW rfl hl.1 rfl (Nat.le_of_ble_eq_true rfl) dX11_fund_3 ⟨by dsimp only; omega, by dsimp only; omega⟩ (fun E_ ce_ q9_ H1 locs1 hE hW1 h1_ h2_ h3_ => g_outX ht hlk hW1 (fun _ _ h => h) (by obtain ⟨rfl, hE⟩ := hE; exact (Or.inl ⟨(show (pFund S b c v).1 = 1 from sGo_1 (a := okBC b c) (b := sIn v 1 1000000) (d := true) (by have hE2 := hE; (try simp only [okBC, sIn, Bool.and_eq_true, Bool.or_eq_true, Bool.and_eq_false_iff, Bool.or_eq_false_iff, decide_eq_true_eq, decide_eq_false_iff_not, Bool.not_eq_true, Bool.not_eq_false, Bool.not_eq_true', Bool.not_eq_false', Bool.not_true, Bool.not_false, Bool.true_and, Bool.and_true, Bool.false_and, Bool.and_false, Bool.true_or, Bool.or_true, Bool.false_or, Bool.or_false] at hE2); simp only [okBC, sIn, Bool.and_eq_true, Bool.or_eq_true, Bool.and_eq_false_iff, Bool.or_eq_false_iff, decide_eq_true_eq, decide_eq_false_iff_not, Bool.not_eq_true, Bool.not_eq_false, Bool.not_eq_true', Bool.not_eq_false', Bool.not_true, Bool.not_false, Bool.true_and, Bool.and_true, Bool.false_and, Bool.and_false, Bool.true_or, Bool.or_true, Bool.false_or, Bool.or_false]; omega)), rfl⟩)) h1_ h2_ h3_ (by first | omega | (dsimp only; omega)) (by first | omega | (dsimp only; omega))) (fun v_ f_ H locs hp hW => ?_)
  obtain ⟨hq_1, hpv, hpe⟩ := hp
  rw [hpe] at hW
  subst hpv
  (try simp only [Bool.and_eq_true, Bool.or_eq_true, Bool.and_eq_false_iff, Bool.or_eq_false_iff, decide_eq_true_eq, decide_eq_false_iff_not, Bool.not_eq_true, Bool.not_eq_false, Bool.not_eq_true', Bool.not_eq_false', Bool.not_true, Bool.not_false, Bool.true_and, Bool.and_true, Bool.false_and, Bool.and_false, Bool.true_or, Bool.or_true, Bool.false_or, Bool.or_false] at hq_1)
  refine lv_iload_n hx hb dX11_fund_6 rfl (lv_at hl 2 rfl) ?_
  refine xi_iconst hx hb dX11_fund_7 ?_
  refine g_xcallS (As := [.int (iI (c)), .int (iI (3))]) (rest := []) K (c_X11_needPlace (c) (3) ⟨by omega, by omega⟩ ⟨by omega, by omega⟩ hst) (va_cwS 2 hts gC_X11_16 rfl rfl rfl (by decide +kernel) ⟨Nat.le_of_ble_eq_true rfl, Nat.le_of_ble_eq_true rfl⟩) hK hW rfl hl.1 rfl (Nat.le_of_ble_eq_true rfl) dX11_fund_8 ⟨by dsimp only; omega, by dsimp only; omega⟩ (fun E_ ce_ q9_ H1 locs1 hE hW1 h1_ h2_ h3_ => g_outX ht hlk hW1 (fun _ _ h => h) (by obtain ⟨rfl, hE⟩ := hE; exact (Or.inl ⟨(show (pFund S b c v).1 = 1 from sGo_1 (a := okBC b c) (b := sIn v 1 1000000) (d := true) (by have hE2 := hE; (try simp only [okBC, sIn, Bool.and_eq_true, Bool.or_eq_true, Bool.and_eq_false_iff, Bool.or_eq_false_iff, decide_eq_true_eq, decide_eq_false_iff_not, Bool.not_eq_true, Bool.not_eq_false, Bool.not_eq_true', Bool.not_eq_false', Bool.not_true, Bool.not_false, Bool.true_and, Bool.and_true, Bool.false_and, Bool.and_false, Bool.true_or, Bool.or_true, Bool.false_or, Bool.or_false] at hE2); simp only [okBC, sIn, Bool.and_eq_true, Bool.or_eq_true, Bool.and_eq_false_iff, Bool.or_eq_false_iff, decide_eq_true_eq, decide_eq_false_iff_not, Bool.not_eq_true, Bool.not_eq_false, Bool.not_eq_true', Bool.not_eq_false', Bool.not_true, Bool.not_false, Bool.true_and, Bool.and_true, Bool.false_and, Bool.and_false, Bool.true_or, Bool.or_true, Bool.false_or, Bool.or_false]; omega)), rfl⟩)) h1_ h2_ h3_ (by first | omega | (dsimp only; omega)) (by first | omega | (dsimp only; omega))) (fun v_ f_ H locs hp hW => ?_)
  obtain ⟨hq_2, hpv, hpe⟩ := hp
  rw [hpe] at hW
  subst hpv
  (try simp only [Bool.and_eq_true, Bool.or_eq_true, Bool.and_eq_false_iff, Bool.or_eq_false_iff, decide_eq_true_eq, decide_eq_false_iff_not, Bool.not_eq_true, Bool.not_eq_false, Bool.not_eq_true', Bool.not_eq_false', Bool.not_true, Bool.not_false, Bool.true_and, Bool.and_true, Bool.false_and, Bool.and_false, Bool.true_or, Bool.or_true, Bool.false_or, Bool.or_false] at hq_2)
  refine lv_iload_n hx hb dX11_fund_11 rfl (lv_at hl 3 rfl) ?_
  refine xi_iconst hx hb dX11_fund_12 ?_
  refine xi_ldc hx hb 1000000 (by decide) hown (hts _ kC_X11_20) dX11_fund_13 ?_
  refine g_xcallS (As := [.int (iI (v)), .int (iI (1)), .int (iI (1000000))]) (rest := []) K (c_X11_needRange (v) (1) (1000000) ⟨by omega, by omega⟩ ⟨by omega, by omega⟩ ⟨by omega, by omega⟩ hst) (va_cwS 3 hts gC_X11_21 rfl rfl rfl (by decide +kernel) ⟨Nat.le_of_ble_eq_true rfl, Nat.le_of_ble_eq_true rfl⟩) hK hW rfl hl.1 rfl (Nat.le_of_ble_eq_true rfl) dX11_fund_15 ⟨by dsimp only; omega, by dsimp only; omega⟩ (fun E_ ce_ q9_ H1 locs1 hE hW1 h1_ h2_ h3_ => g_outX ht hlk hW1 (fun _ _ h => h) (by obtain ⟨rfl, hE⟩ := hE; exact (Or.inr ⟨(show (pFund S b c v).1 = 2 from sGo_2 (a := okBC b c) (b := sIn v 1 1000000) (d := true) (by (try simp only [okBC, sIn, Bool.and_eq_true, Bool.or_eq_true, Bool.and_eq_false_iff, Bool.or_eq_false_iff, decide_eq_true_eq, decide_eq_false_iff_not, Bool.not_eq_true, Bool.not_eq_false, Bool.not_eq_true', Bool.not_eq_false', Bool.not_true, Bool.not_false, Bool.true_and, Bool.and_true, Bool.false_and, Bool.and_false, Bool.true_or, Bool.or_true, Bool.false_or, Bool.or_false]); first | done | rfl | omega) (by have hE2 := hE; (try simp only [okBC, sIn, Bool.and_eq_true, Bool.or_eq_true, Bool.and_eq_false_iff, Bool.or_eq_false_iff, decide_eq_true_eq, decide_eq_false_iff_not, Bool.not_eq_true, Bool.not_eq_false, Bool.not_eq_true', Bool.not_eq_false', Bool.not_true, Bool.not_false, Bool.true_and, Bool.and_true, Bool.false_and, Bool.and_false, Bool.true_or, Bool.or_true, Bool.false_or, Bool.or_false] at hE2); simp only [okBC, sIn, Bool.and_eq_true, Bool.or_eq_true, Bool.and_eq_false_iff, Bool.or_eq_false_iff, decide_eq_true_eq, decide_eq_false_iff_not, Bool.not_eq_true, Bool.not_eq_false, Bool.not_eq_true', Bool.not_eq_false', Bool.not_true, Bool.not_false, Bool.true_and, Bool.and_true, Bool.false_and, Bool.and_false, Bool.true_or, Bool.or_true, Bool.false_or, Bool.or_false]; omega)), rfl⟩)) h1_ h2_ h3_ (by first | omega | (dsimp only; omega)) (by first | omega | (dsimp only; omega))) (fun v_ f_ H locs hp hW => ?_)
  obtain ⟨hq_3, hpv, hpe⟩ := hp
  rw [hpe] at hW
  subst hpv
  (try simp only [Bool.and_eq_true, Bool.or_eq_true, Bool.and_eq_false_iff, Bool.or_eq_false_iff, decide_eq_true_eq, decide_eq_false_iff_not, Bool.not_eq_true, Bool.not_eq_false, Bool.not_eq_true', Bool.not_eq_false', Bool.not_true, Bool.not_false, Bool.true_and, Bool.and_true, Bool.false_and, Bool.and_false, Bool.true_or, Bool.or_true, Bool.false_or, Bool.or_false] at hq_3)
  refine lv_aload_n hx hb dX11_fund_18 rfl (lv_at hl 0 rfl) ?_
  refine g_get (ref := RX11) (T := TX11) (N := 1) (ci := 12) hx hb hts wsC_X11 hown hK hW (100000 + 0) (kW_at rfl) rfl 0 (by decide) (hts _ lC_X11_10) (fun x h => h) (v := .ref (ad 1)) rfl dX11_fund_19 ?_
  refine g_get (ref := RX6) (T := TX6) (N := 8) (ci := 7) hx hb hts wsC_X6 hown hK hW (100000 + 1) (kW_at rfl) rfl 1 (by decide) (hts _ lC_X11_25) (fun x h => h) (v := .ref (ad 3)) rfl dX11_fund_22 ?_
  refine xi_iconst hx hb dX11_fund_25 ?_
  refine lv_iload_n hx hb dX11_fund_26 rfl (lv_at hl 1 rfl) ?_
  refine lv_iload_n hx hb dX11_fund_27 rfl (lv_at hl 2 rfl) ?_
  refine lv_iload_n hx hb dX11_fund_28 rfl (lv_at hl 3 rfl) ?_
  refine xi_i2l hx hb ⟨by omega, by omega⟩ dX11_fund_29 ?_
  refine xi_iconst hx hb dX11_fund_30 ?_
  have hcA : (okBC b c) = true := (by (try simp only [okBC, sIn, Bool.and_eq_true, Bool.or_eq_true, Bool.and_eq_false_iff, Bool.or_eq_false_iff, decide_eq_true_eq, decide_eq_false_iff_not, Bool.not_eq_true, Bool.not_eq_false, Bool.not_eq_true', Bool.not_eq_false', Bool.not_true, Bool.not_false, Bool.true_and, Bool.and_true, Bool.false_and, Bool.and_false, Bool.true_or, Bool.or_true, Bool.false_or, Bool.or_false]); first | done | rfl | omega)
  have hcB : (sIn v 1 1000000) = true := (by (try simp only [okBC, sIn, Bool.and_eq_true, Bool.or_eq_true, Bool.and_eq_false_iff, Bool.or_eq_false_iff, decide_eq_true_eq, decide_eq_false_iff_not, Bool.not_eq_true, Bool.not_eq_false, Bool.not_eq_true', Bool.not_eq_false', Bool.not_true, Bool.not_false, Bool.true_and, Bool.and_true, Bool.false_and, Bool.and_false, Bool.true_or, Bool.or_true, Bool.false_or, Bool.or_false]); first | done | rfl | omega)
  have hcC : (true) = true := (by (try simp only [okBC, sIn, Bool.and_eq_true, Bool.or_eq_true, Bool.and_eq_false_iff, Bool.or_eq_false_iff, decide_eq_true_eq, decide_eq_false_iff_not, Bool.not_eq_true, Bool.not_eq_false, Bool.not_eq_true', Bool.not_eq_false', Bool.not_true, Bool.not_false, Bool.true_and, Bool.and_true, Bool.false_and, Bool.and_false, Bool.true_or, Bool.or_true, Bool.false_or, Bool.or_false]); first | done | rfl | omega)
  have hsp : pFund S b c v = (0, (sRuns (sBook S (-1) b c (Int64.ofInt v) (-1))).2.2 1 (3 * b + c), (sRuns (sBook S (-1) b c (Int64.ofInt v) (-1))).2) := by unfold pFund; rw [sGo_00 hcA hcB hcC, if_pos (show ((okBC b c) && (sIn v 1 1000000) && (true)) = true by rw [hcA, hcB, hcC]; rfl)]
  have hno : okS (sBook S (-1) b c (Int64.ofInt v) (-1)) := okS_book ho _ _ _ _ _ (by omega)
  have hnR := (rdP_n hno.1 (rdP_runs hno)).1
  have hnb := nE_book hwf (-1) b c (Int64.ofInt v) (-1)
  have hmE : nE S + 1 ≤ nE (pFund S b c v).2.2 := by rw [hsp]; show nE S + 1 ≤ nE (sRuns _).2; omega
  have g1 := kTc_le hmE
  have g2 := kTs_le hmE
  have hd1 : kTc (nE S + 1) = kTc (nE S) + (1 + kmc (nE S)) := rfl
  have hd2 : kTs (nE S + 1) = kTs (nE S) + (5 + kms (nE S)) := rfl
  have hmA : 0 + 1 + 1 + 1 + (1 + kmc (nE S)) ≤ kTc (nE (pFund S b c v).2.2) - kTc (nE S) + 16 := by omega
  have hmB : 0 + 6 + 6 + 6 + (5 + kms (nE S)) ≤ kTs (nE (pFund S b c v).2.2) - kTs (nE S) + 400 := by omega
  clear hsp hcA hcB hcC
  refine g_callV (i := 100000 + 3) (As := [.int (iI ((-1))), .int (iI (b)), .int (iI (c)), .long (Int64.ofInt (v)), .int (iI ((-1)))]) (rest := []) K (c_X0_move ((-1)) (b) (c) (Int64.ofInt (v)) ((-1)) hwf ⟨by omega, by omega⟩ ⟨by omega, by omega⟩ ⟨by omega, by omega⟩ ⟨by omega, by omega⟩ hG0 (by have := cNF_nn S; omega) hE0) (cwV 5 hts gC_X11_29 rfl rfl rfl (by decide +kernel) ⟨Nat.le_of_ble_eq_true rfl, Nat.le_of_ble_eq_true rfl⟩) hK hW (kW_at rfl) rfl rfl hl.1 rfl (Nat.le_of_ble_eq_true rfl) dX11_fund_31 ⟨hmA, hmB⟩ (fun v_ f_ H locs hp hW => ?_)
  obtain ⟨hpv, q, q2, hpe⟩ := hp
  rw [hpe] at hW
  subst hpv
  refine lv_aload_n hx hb dX11_fund_34 rfl (lv_at hl 0 rfl) ?_
  refine g_get (ref := RX11) (T := TX11) (N := 1) (ci := 12) hx hb hts wsC_X11 hown hK hW (100000 + 0) (kW_at rfl) rfl 0 (by decide) (hts _ lC_X11_10) (fun x h => h) (v := .ref (ad 1)) rfl dX11_fund_35 ?_
  obtain ⟨T, hT⟩ : ∃ x : ST, x = (sBook S (-1) b c (Int64.ofInt (v)) (-1)) := ⟨_, rfl⟩
  rw [← hT] at hW
  have hRo : okS T := by rw [hT]; exact okS_book ho _ _ _ _ _ (by omega)
  have hT8 : T.1 8 = S.1 8 := by rw [hT]; exact sBook_f S _ _ _ _ _ (by decide)
  have hT21 : T.1 21 = S.1 21 := by rw [hT]; exact sBook_f S _ _ _ _ _ (by decide)
  have hTe : T.1 31 0 + cNF T ≤ S.1 31 0 + cNF S + 1 := by rw [hT, sBook_31, cNF_book]; omega
  have hTn : nE T = nE S + 1 := by rw [hT]; exact nE_book hwf _ _ _ _ _
  have hTc1 : kTc (nE T) = kTc (nE S) + (1 + kmc (nE S)) := by rw [hTn]; rfl
  have hTc2 : kTs (nE T) = kTs (nE S) + (5 + kms (nE S)) := by rw [hTn]; rfl
  have hRb : nE T = 0 → (adK bk (nE S) q q2) 10 = D.1 21 := fun h => absurd h (by omega)
  have hRl : legW T := legW_of (congrFun hT8 0) hT21 hlw
  have hRe : T.1 31 0 + cNF T < 20000 := by omega
  have hRr := (sRuns_ok hRo).1
  have hRn := rdP_n hRo.1 (rdP_runs hRo)
  have hNP : nP (sRuns T).2 = nP S := (nP_runs hRo).trans (by unfold nP; rw [hT8])
  have t1 := kTc_le (show nE T ≤ nE (sRuns T).2 by omega)
  have t2 := kTs_le (show nE T ≤ nE (sRuns T).2 by omega)
  have hcA : (okBC b c) = true := (by (try simp only [okBC, sIn, Bool.and_eq_true, Bool.or_eq_true, Bool.and_eq_false_iff, Bool.or_eq_false_iff, decide_eq_true_eq, decide_eq_false_iff_not, Bool.not_eq_true, Bool.not_eq_false, Bool.not_eq_true', Bool.not_eq_false', Bool.not_true, Bool.not_false, Bool.true_and, Bool.and_true, Bool.false_and, Bool.and_false, Bool.true_or, Bool.or_true, Bool.false_or, Bool.or_false]); first | done | rfl | omega)
  have hcB : (sIn v 1 1000000) = true := (by (try simp only [okBC, sIn, Bool.and_eq_true, Bool.or_eq_true, Bool.and_eq_false_iff, Bool.or_eq_false_iff, decide_eq_true_eq, decide_eq_false_iff_not, Bool.not_eq_true, Bool.not_eq_false, Bool.not_eq_true', Bool.not_eq_false', Bool.not_true, Bool.not_false, Bool.true_and, Bool.and_true, Bool.false_and, Bool.and_false, Bool.true_or, Bool.or_true, Bool.false_or, Bool.or_false]); first | done | rfl | omega)
  have hcC : (true) = true := (by (try simp only [okBC, sIn, Bool.and_eq_true, Bool.or_eq_true, Bool.and_eq_false_iff, Bool.or_eq_false_iff, decide_eq_true_eq, decide_eq_false_iff_not, Bool.not_eq_true, Bool.not_eq_false, Bool.not_eq_true', Bool.not_eq_false', Bool.not_true, Bool.not_false, Bool.true_and, Bool.and_true, Bool.false_and, Bool.and_false, Bool.true_or, Bool.or_true, Bool.false_or, Bool.or_false]); first | done | rfl | omega)
  have hsp : pFund S b c v = (0, (sRuns T).2.2 1 (3 * b + c), (sRuns T).2) := by unfold pFund; rw [sGo_00 hcA hcB hcC, if_pos (show ((okBC b c) && (sIn v 1 1000000) && (true)) = true by rw [hcA, hcB, hcC]; rfl)]; rw [hT]
  have hM1 : kTc (nE ((pFund S b c v).2.2)) = kTc (nE (sRuns T).2) := by rw [hsp]
  have hM2 : kTs (nE ((pFund S b c v).2.2)) = kTs (nE (sRuns T).2) := by rw [hsp]
  refine g_callV (i := 100000 + 1) (As := []) (rest := []) K (c_X6_runQueues (S := T) hRo.1 hRo hRl hRe hG0 hRb) (cwV 0 hts gC_X11_35 rfl rfl rfl (by decide +kernel) ⟨Nat.le_of_ble_eq_true rfl, Nat.le_of_ble_eq_true rfl⟩) hK hW (kW_at rfl) rfl rfl hl.1 rfl (Nat.le_of_ble_eq_true rfl) dX11_fund_38 ⟨by dsimp only; omega, by dsimp only; omega⟩ (fun v_ f_ H locs hp hW => ?_)
  obtain ⟨bk9, I9, c9, q9, hpv, hb9, hpe⟩ := hp
  rw [hpe] at hW
  subst hpv
  refine lv_pop hx hb dX11_fund_41 rfl ?_
  refine lv_aload_n hx hb dX11_fund_42 rfl (lv_at hl 0 rfl) ?_
  refine g_get (ref := RX11) (T := TX11) (N := 1) (ci := 12) hx hb hts wsC_X11 hown hK hW (100000 + 0) (kW_at rfl) rfl 0 (by decide) (hts _ lC_X11_10) (fun x h => h) (v := .ref (ad 1)) rfl dX11_fund_43 ?_
  refine g_get (ref := RX6) (T := TX6) (N := 8) (ci := 7) hx hb hts wsC_X6 hown hK hW (100000 + 1) (kW_at rfl) rfl 1 (by decide) (hts _ lC_X11_25) (fun x h => h) (v := .ref (ad 3)) rfl dX11_fund_46 ?_
  refine lv_iload_n hx hb dX11_fund_49 rfl (lv_at hl 1 rfl) ?_
  refine lv_iload_n hx hb dX11_fund_50 rfl (lv_at hl 2 rfl) ?_
  refine g_callV (i := 100000 + 3) (As := [.int (iI (b)), .int (iI (c))]) (rest := []) K (c_X0_balanceOf (b) (c) (hRr.1) ⟨by omega, by omega⟩ ⟨by omega, by omega⟩) (cwV 2 hts gC_X11_39 rfl rfl rfl (by decide +kernel) ⟨Nat.le_of_ble_eq_true rfl, Nat.le_of_ble_eq_true rfl⟩) hK hW (kW_at rfl) rfl rfl hl.1 rfl (Nat.le_of_ble_eq_true rfl) dX11_fund_51 ⟨by dsimp only; omega, by dsimp only; omega⟩ (fun v_ f_ H locs hp hW => ?_)
  obtain ⟨hpv, hpe⟩ := hp
  rw [hpe] at hW
  have hpv : v_ = some (.long ((sRuns T).2.2 1 (3 * b + c))) := hpv
  subst hpv
  exact W.widen (by first | omega | (dsimp only; omega)) (by first | omega | (dsimp only; omega)) (vx_ret (g_lret hx hb hr hW ⟨by rw [hsp], ad, bk9, I9, c9, q9, rfl, fun h => hP0 (by rw [hsp] at h; rw [← hNP]; exact h), fun h => hb9 (by rw [hsp] at h; exact h), by rw [hsp], by rw [hsp]⟩ dX11_fund_54 hlk))
set_option maxHeartbeats 4000000 in
set_option maxRecDepth 100000 in
theorem c_X11_line {l : Launch} {D : va_G} {cy : Nat → ClassId} {B0 : Nat} {ad bk : Nat → Nat} {S : ST} {I : Int → Bool} {cX qX : Int → Int64} {G : gF} (b : Int) (c : Int) (v : Int) (hwf : wf S) (h_b : rI b) (h_c : rI c) (h_v : rI v) (ho : okS S) (hlw : legW S) (he : S.1 31 0 + cNF S < 19900) (hG0 : G 50001 = none) (hG2 : G 50002 = none) (hG3 : G 50003 = none) (hP0 : nP S = 0 → ad 11 = D.1 21) (hE0 : nE S = 0 → bk 10 = D.1 21)  (hst : l.stackTraces = false) : gX l yX11_line vX11_line 13 297 D cy B0 [.ref (ad 0), .int (iI (b)), .int (iI (c)), .int (iI (v))] (kW cy ad bk S (I, cX, qX) G) (fun r g_ => (pLine S b c v).1 = 0 ∧ ∃ (ad2 bk2 : Nat → Nat) (I2 : Int → Bool) (c2 q2 : Int → Int64), ad2 0 = ad 0 ∧ (nP (pLine S b c v).2.2 = 0 → ad2 11 = D.1 21) ∧ (nE (pLine S b c v).2.2 = 0 → bk2 10 = D.1 21) ∧ r = some (.int (iI (pLine S b c v).2.1)) ∧ g_ = kW cy ad2 bk2 (pLine S b c v).2.2 (I2, c2, q2) G) (fun E_ => ((pLine S b c v).1 = 1 ∧ E_ = xIO) ∨ ((pLine S b c v).1 = 2 ∧ E_ = xIA)) (kTc (nE (pLine S b c v).2.2) - kTc (nE S) + 16) (kTs (nE (pLine S b c v).2.2) - kTs (nE S) + 400) := by
  refine g_startX (cc := cX11_line) (maxL := 5) (ret := (some .int)) (by decide) rfl (Nat.le_of_ble_eq_true rfl) ?_
  intro p_ e_ s_ m_ be_ me_ co_ ls H locs K hr hlk hnm ht hK hW hl
  obtain ⟨hx, hb, hml, hown, hts⟩ := id K
  have hl : lv_has ls 5 [(0, .ref (ad 0)), (1, .int (iI (b))), (2, .int (iI (c))), (3, .int (iI (v)))] := hl
  have h80 := wf_8 hwf 0
  have h310 := wf_31 hwf 0
  refine lv_iload_n hx hb dX11_line_0 rfl (lv_at hl 1 rfl) ?_
  refine xi_bipush hx hb dX11_line_1 (by decide) ?_
  refine g_xcallS (As := [.int (iI (b)), .int (iI (6))]) (rest := []) K (c_X11_needPlace (b) (6) ⟨by omega, by omega⟩ ⟨by omega, by omega⟩ hst) (va_cwS 2 hts gC_X11_16 rfl rfl rfl (by decide +kernel) ⟨Nat.le_of_ble_eq_true rfl, Nat.le_of_ble_eq_true rfl⟩) hK hW rfl hl.1 rfl (Nat.le_of_ble_eq_true rfl) dX11_line_3 ⟨by dsimp only; omega, by dsimp only; omega⟩ (fun E_ ce_ q9_ H1 locs1 hE hW1 h1_ h2_ h3_ => g_outX ht hlk hW1 (fun _ _ h => h) (by obtain ⟨rfl, hE⟩ := hE; exact (Or.inl ⟨(show (pLine S b c v).1 = 1 from sGo_1 (a := okBC b c) (b := sIn v 0 1000000) (d := true) (by have hE2 := hE; (try simp only [okBC, sIn, Bool.and_eq_true, Bool.or_eq_true, Bool.and_eq_false_iff, Bool.or_eq_false_iff, decide_eq_true_eq, decide_eq_false_iff_not, Bool.not_eq_true, Bool.not_eq_false, Bool.not_eq_true', Bool.not_eq_false', Bool.not_true, Bool.not_false, Bool.true_and, Bool.and_true, Bool.false_and, Bool.and_false, Bool.true_or, Bool.or_true, Bool.false_or, Bool.or_false] at hE2); simp only [okBC, sIn, Bool.and_eq_true, Bool.or_eq_true, Bool.and_eq_false_iff, Bool.or_eq_false_iff, decide_eq_true_eq, decide_eq_false_iff_not, Bool.not_eq_true, Bool.not_eq_false, Bool.not_eq_true', Bool.not_eq_false', Bool.not_true, Bool.not_false, Bool.true_and, Bool.and_true, Bool.false_and, Bool.and_false, Bool.true_or, Bool.or_true, Bool.false_or, Bool.or_false]; omega)), rfl⟩)) h1_ h2_ h3_ (by first | omega | (dsimp only; omega)) (by first | omega | (dsimp only; omega))) (fun v_ f_ H locs hp hW => ?_)
  obtain ⟨hq_1, hpv, hpe⟩ := hp
  rw [hpe] at hW
  subst hpv
  (try simp only [Bool.and_eq_true, Bool.or_eq_true, Bool.and_eq_false_iff, Bool.or_eq_false_iff, decide_eq_true_eq, decide_eq_false_iff_not, Bool.not_eq_true, Bool.not_eq_false, Bool.not_eq_true', Bool.not_eq_false', Bool.not_true, Bool.not_false, Bool.true_and, Bool.and_true, Bool.false_and, Bool.and_false, Bool.true_or, Bool.or_true, Bool.false_or, Bool.or_false] at hq_1)
  refine lv_iload_n hx hb dX11_line_6 rfl (lv_at hl 2 rfl) ?_
  refine xi_iconst hx hb dX11_line_7 ?_
  refine g_xcallS (As := [.int (iI (c)), .int (iI (3))]) (rest := []) K (c_X11_needPlace (c) (3) ⟨by omega, by omega⟩ ⟨by omega, by omega⟩ hst) (va_cwS 2 hts gC_X11_16 rfl rfl rfl (by decide +kernel) ⟨Nat.le_of_ble_eq_true rfl, Nat.le_of_ble_eq_true rfl⟩) hK hW rfl hl.1 rfl (Nat.le_of_ble_eq_true rfl) dX11_line_8 ⟨by dsimp only; omega, by dsimp only; omega⟩ (fun E_ ce_ q9_ H1 locs1 hE hW1 h1_ h2_ h3_ => g_outX ht hlk hW1 (fun _ _ h => h) (by obtain ⟨rfl, hE⟩ := hE; exact (Or.inl ⟨(show (pLine S b c v).1 = 1 from sGo_1 (a := okBC b c) (b := sIn v 0 1000000) (d := true) (by have hE2 := hE; (try simp only [okBC, sIn, Bool.and_eq_true, Bool.or_eq_true, Bool.and_eq_false_iff, Bool.or_eq_false_iff, decide_eq_true_eq, decide_eq_false_iff_not, Bool.not_eq_true, Bool.not_eq_false, Bool.not_eq_true', Bool.not_eq_false', Bool.not_true, Bool.not_false, Bool.true_and, Bool.and_true, Bool.false_and, Bool.and_false, Bool.true_or, Bool.or_true, Bool.false_or, Bool.or_false] at hE2); simp only [okBC, sIn, Bool.and_eq_true, Bool.or_eq_true, Bool.and_eq_false_iff, Bool.or_eq_false_iff, decide_eq_true_eq, decide_eq_false_iff_not, Bool.not_eq_true, Bool.not_eq_false, Bool.not_eq_true', Bool.not_eq_false', Bool.not_true, Bool.not_false, Bool.true_and, Bool.and_true, Bool.false_and, Bool.and_false, Bool.true_or, Bool.or_true, Bool.false_or, Bool.or_false]; omega)), rfl⟩)) h1_ h2_ h3_ (by first | omega | (dsimp only; omega)) (by first | omega | (dsimp only; omega))) (fun v_ f_ H locs hp hW => ?_)
  obtain ⟨hq_2, hpv, hpe⟩ := hp
  rw [hpe] at hW
  subst hpv
  (try simp only [Bool.and_eq_true, Bool.or_eq_true, Bool.and_eq_false_iff, Bool.or_eq_false_iff, decide_eq_true_eq, decide_eq_false_iff_not, Bool.not_eq_true, Bool.not_eq_false, Bool.not_eq_true', Bool.not_eq_false', Bool.not_true, Bool.not_false, Bool.true_and, Bool.and_true, Bool.false_and, Bool.and_false, Bool.true_or, Bool.or_true, Bool.false_or, Bool.or_false] at hq_2)
  refine lv_iload_n hx hb dX11_line_11 rfl (lv_at hl 3 rfl) ?_
  refine xi_iconst hx hb dX11_line_12 ?_
  refine xi_ldc hx hb 1000000 (by decide) hown (hts _ kC_X11_20) dX11_line_13 ?_
  refine g_xcallS (As := [.int (iI (v)), .int (iI (0)), .int (iI (1000000))]) (rest := []) K (c_X11_needRange (v) (0) (1000000) ⟨by omega, by omega⟩ ⟨by omega, by omega⟩ ⟨by omega, by omega⟩ hst) (va_cwS 3 hts gC_X11_21 rfl rfl rfl (by decide +kernel) ⟨Nat.le_of_ble_eq_true rfl, Nat.le_of_ble_eq_true rfl⟩) hK hW rfl hl.1 rfl (Nat.le_of_ble_eq_true rfl) dX11_line_15 ⟨by dsimp only; omega, by dsimp only; omega⟩ (fun E_ ce_ q9_ H1 locs1 hE hW1 h1_ h2_ h3_ => g_outX ht hlk hW1 (fun _ _ h => h) (by obtain ⟨rfl, hE⟩ := hE; exact (Or.inr ⟨(show (pLine S b c v).1 = 2 from sGo_2 (a := okBC b c) (b := sIn v 0 1000000) (d := true) (by (try simp only [okBC, sIn, Bool.and_eq_true, Bool.or_eq_true, Bool.and_eq_false_iff, Bool.or_eq_false_iff, decide_eq_true_eq, decide_eq_false_iff_not, Bool.not_eq_true, Bool.not_eq_false, Bool.not_eq_true', Bool.not_eq_false', Bool.not_true, Bool.not_false, Bool.true_and, Bool.and_true, Bool.false_and, Bool.and_false, Bool.true_or, Bool.or_true, Bool.false_or, Bool.or_false]); first | done | rfl | omega) (by have hE2 := hE; (try simp only [okBC, sIn, Bool.and_eq_true, Bool.or_eq_true, Bool.and_eq_false_iff, Bool.or_eq_false_iff, decide_eq_true_eq, decide_eq_false_iff_not, Bool.not_eq_true, Bool.not_eq_false, Bool.not_eq_true', Bool.not_eq_false', Bool.not_true, Bool.not_false, Bool.true_and, Bool.and_true, Bool.false_and, Bool.and_false, Bool.true_or, Bool.or_true, Bool.false_or, Bool.or_false] at hE2); simp only [okBC, sIn, Bool.and_eq_true, Bool.or_eq_true, Bool.and_eq_false_iff, Bool.or_eq_false_iff, decide_eq_true_eq, decide_eq_false_iff_not, Bool.not_eq_true, Bool.not_eq_false, Bool.not_eq_true', Bool.not_eq_false', Bool.not_true, Bool.not_false, Bool.true_and, Bool.and_true, Bool.false_and, Bool.and_false, Bool.true_or, Bool.or_true, Bool.false_or, Bool.or_false]; omega)), rfl⟩)) h1_ h2_ h3_ (by first | omega | (dsimp only; omega)) (by first | omega | (dsimp only; omega))) (fun v_ f_ H locs hp hW => ?_)
  obtain ⟨hq_3, hpv, hpe⟩ := hp
  rw [hpe] at hW
  subst hpv
  (try simp only [Bool.and_eq_true, Bool.or_eq_true, Bool.and_eq_false_iff, Bool.or_eq_false_iff, decide_eq_true_eq, decide_eq_false_iff_not, Bool.not_eq_true, Bool.not_eq_false, Bool.not_eq_true', Bool.not_eq_false', Bool.not_true, Bool.not_false, Bool.true_and, Bool.and_true, Bool.false_and, Bool.and_false, Bool.true_or, Bool.or_true, Bool.false_or, Bool.or_false] at hq_3)
  refine lv_aload_n hx hb dX11_line_18 rfl (lv_at hl 0 rfl) ?_
  refine g_get (ref := RX11) (T := TX11) (N := 1) (ci := 12) hx hb hts wsC_X11 hown hK hW (100000 + 0) (kW_at rfl) rfl 0 (by decide) (hts _ lC_X11_10) (fun x h => h) (v := .ref (ad 1)) rfl dX11_line_19 ?_
  refine g_get (ref := RX6) (T := TX6) (N := 8) (ci := 7) hx hb hts wsC_X6 hown hK hW (100000 + 1) (kW_at rfl) rfl 1 (by decide) (hts _ lC_X11_25) (fun x h => h) (v := .ref (ad 3)) rfl dX11_line_22 ?_
  refine lv_iload_n hx hb dX11_line_25 rfl (lv_at hl 1 rfl) ?_
  refine lv_iload_n hx hb dX11_line_26 rfl (lv_at hl 2 rfl) ?_
  refine lv_iload_n hx hb dX11_line_27 rfl (lv_at hl 3 rfl) ?_
  refine g_callV (i := 100000 + 3) (As := [.int (iI (b)), .int (iI (c)), .int (iI (v))]) (rest := []) K (c_X0_changeLine (b) (c) (v) hwf ⟨by omega, by omega⟩ ⟨by omega, by omega⟩ ⟨by omega, by omega⟩) (cwV 3 hts gC_X11_43 rfl rfl rfl (by decide +kernel) ⟨Nat.le_of_ble_eq_true rfl, Nat.le_of_ble_eq_true rfl⟩) hK hW (kW_at rfl) rfl rfl hl.1 rfl (Nat.le_of_ble_eq_true rfl) dX11_line_28 ⟨by dsimp only; omega, by dsimp only; omega⟩ (fun v_ f_ H locs hp hW => ?_)
  obtain ⟨hpv, hpe⟩ := hp
  rw [hpe] at hW
  have hpv : v_ = some (.int (iI (S.1 2 (3 * b + c)))) := hpv
  subst hpv
  refine lv_istore (lv' := [(4, .int (iI (S.1 2 (3 * b + c)))), (0, .ref (ad 0)), (1, .int (iI (b))), (2, .int (iI (c))), (3, .int (iI (v)))]) hx hb dX11_line_31 hl (by decide) rfl (fun ls hl => ?_)
  refine lv_aload_n hx hb dX11_line_33 rfl (lv_at hl 1 rfl) ?_
  refine g_get (ref := RX11) (T := TX11) (N := 1) (ci := 12) hx hb hts wsC_X11 hown hK hW (100000 + 0) (kW_at rfl) rfl 0 (by decide) (hts _ lC_X11_10) (fun x h => h) (v := .ref (ad 1)) rfl dX11_line_34 ?_
  obtain ⟨T, hT⟩ : ∃ x : ST, x = (pI S 2 (3 * b + c) (v)) := ⟨_, rfl⟩
  rw [← hT] at hW
  have hRo : okS T := by rw [hT]; exact okS_pI ho _ _ (by decide) (by simp only [rLo, rHi]; omega)
  have hT8 : T.1 8 = S.1 8 := by rw [hT]; exact pI_f _ _ _ (by decide)
  have hT21 : T.1 21 = S.1 21 := by rw [hT]; exact pI_f _ _ _ (by decide)
  have hTe : T.1 31 0 + cNF T ≤ S.1 31 0 + cNF S + 1 := by rw [hT, pI_f _ _ _ (by decide), cNF_pI (by decide)]; omega
  have hTn : nE T = nE S := nE_f (by rw [hT]; exact pI_f _ _ _ (by decide))
  have hTc1 : kTc (nE T) = kTc (nE S) := by rw [hTn]
  have hTc2 : kTs (nE T) = kTs (nE S) := by rw [hTn]
  have hRb : nE T = 0 → bk 10 = D.1 21 := fun h => hE0 (by rw [← hTn]; exact h)
  have hRl : legW T := legW_of (congrFun hT8 0) hT21 hlw
  have hRe : T.1 31 0 + cNF T < 20000 := by omega
  have hRr := (sRuns_ok hRo).1
  have hRn := rdP_n hRo.1 (rdP_runs hRo)
  have hNP : nP (sRuns T).2 = nP S := (nP_runs hRo).trans (by unfold nP; rw [hT8])
  have t1 := kTc_le (show nE T ≤ nE (sRuns T).2 by omega)
  have t2 := kTs_le (show nE T ≤ nE (sRuns T).2 by omega)
  have hcA : (okBC b c) = true := (by (try simp only [okBC, sIn, Bool.and_eq_true, Bool.or_eq_true, Bool.and_eq_false_iff, Bool.or_eq_false_iff, decide_eq_true_eq, decide_eq_false_iff_not, Bool.not_eq_true, Bool.not_eq_false, Bool.not_eq_true', Bool.not_eq_false', Bool.not_true, Bool.not_false, Bool.true_and, Bool.and_true, Bool.false_and, Bool.and_false, Bool.true_or, Bool.or_true, Bool.false_or, Bool.or_false]); first | done | rfl | omega)
  have hcB : (sIn v 0 1000000) = true := (by (try simp only [okBC, sIn, Bool.and_eq_true, Bool.or_eq_true, Bool.and_eq_false_iff, Bool.or_eq_false_iff, decide_eq_true_eq, decide_eq_false_iff_not, Bool.not_eq_true, Bool.not_eq_false, Bool.not_eq_true', Bool.not_eq_false', Bool.not_true, Bool.not_false, Bool.true_and, Bool.and_true, Bool.false_and, Bool.and_false, Bool.true_or, Bool.or_true, Bool.false_or, Bool.or_false]); first | done | rfl | omega)
  have hcC : (true) = true := (by (try simp only [okBC, sIn, Bool.and_eq_true, Bool.or_eq_true, Bool.and_eq_false_iff, Bool.or_eq_false_iff, decide_eq_true_eq, decide_eq_false_iff_not, Bool.not_eq_true, Bool.not_eq_false, Bool.not_eq_true', Bool.not_eq_false', Bool.not_true, Bool.not_false, Bool.true_and, Bool.and_true, Bool.false_and, Bool.and_false, Bool.true_or, Bool.or_true, Bool.false_or, Bool.or_false]); first | done | rfl | omega)
  have hsp : pLine S b c v = (0, S.1 2 (3 * b + c), (sRuns T).2) := by unfold pLine; rw [sGo_00 hcA hcB hcC, if_pos (show ((okBC b c) && (sIn v 0 1000000) && (true)) = true by rw [hcA, hcB, hcC]; rfl)]; rw [hT]
  have hM1 : kTc (nE ((pLine S b c v).2.2)) = kTc (nE (sRuns T).2) := by rw [hsp]
  have hM2 : kTs (nE ((pLine S b c v).2.2)) = kTs (nE (sRuns T).2) := by rw [hsp]
  refine g_callV (i := 100000 + 1) (As := []) (rest := []) K (c_X6_runQueues (S := T) hRo.1 hRo hRl hRe hG0 hRb) (cwV 0 hts gC_X11_35 rfl rfl rfl (by decide +kernel) ⟨Nat.le_of_ble_eq_true rfl, Nat.le_of_ble_eq_true rfl⟩) hK hW (kW_at rfl) rfl rfl hl.1 rfl (Nat.le_of_ble_eq_true rfl) dX11_line_37 ⟨by dsimp only; omega, by dsimp only; omega⟩ (fun v_ f_ H locs hp hW => ?_)
  obtain ⟨bk9, I9, c9, q9, hpv, hb9, hpe⟩ := hp
  rw [hpe] at hW
  subst hpv
  refine lv_pop hx hb dX11_line_40 rfl ?_
  refine lv_iload hx hb dX11_line_41 (lv_at hl 0 rfl) ?_
  exact W.widen (by first | omega | (dsimp only; omega)) (by first | omega | (dsimp only; omega)) (vx_ret (g_iret hx hb hr hW ⟨by rw [hsp], ad, bk9, I9, c9, q9, rfl, fun h => hP0 (by rw [hsp] at h; rw [← hNP]; exact h), fun h => hb9 (by rw [hsp] at h; exact h), by rw [hsp], by rw [hsp]⟩ dX11_line_43 hlk))
set_option maxHeartbeats 4000000 in
set_option maxRecDepth 100000 in
theorem c_X11_limit {l : Launch} {D : va_G} {cy : Nat → ClassId} {B0 : Nat} {ad bk : Nat → Nat} {S : ST} {I : Int → Bool} {cX qX : Int → Int64} {G : gF} (b : Int) (u : Int) (c : Int) (v : Int) (hwf : wf S) (h_b : rI b) (h_u : rI u) (h_c : rI c) (h_v : rI v) (ho : okS S) (hlw : legW S) (he : S.1 31 0 + cNF S < 19900) (hG0 : G 50001 = none) (hG2 : G 50002 = none) (hG3 : G 50003 = none) (hP0 : nP S = 0 → ad 11 = D.1 21) (hE0 : nE S = 0 → bk 10 = D.1 21)  (hst : l.stackTraces = false) : gX l yX11_limit vX11_limit 13 297 D cy B0 [.ref (ad 0), .int (iI (b)), .int (iI (u)), .int (iI (c)), .int (iI (v))] (kW cy ad bk S (I, cX, qX) G) (fun r g_ => (pLimit S b u c v).1 = 0 ∧ ∃ (ad2 bk2 : Nat → Nat) (I2 : Int → Bool) (c2 q2 : Int → Int64), ad2 0 = ad 0 ∧ (nP (pLimit S b u c v).2.2 = 0 → ad2 11 = D.1 21) ∧ (nE (pLimit S b u c v).2.2 = 0 → bk2 10 = D.1 21) ∧ r = some (.int (iI (pLimit S b u c v).2.1)) ∧ g_ = kW cy ad2 bk2 (pLimit S b u c v).2.2 (I2, c2, q2) G) (fun E_ => ((pLimit S b u c v).1 = 1 ∧ E_ = xIO) ∨ ((pLimit S b u c v).1 = 2 ∧ E_ = xIA)) (kTc (nE (pLimit S b u c v).2.2) - kTc (nE S) + 16) (kTs (nE (pLimit S b u c v).2.2) - kTs (nE S) + 400) := by
  refine g_startX (cc := cX11_limit) (maxL := 6) (ret := (some .int)) (by decide) rfl (Nat.le_of_ble_eq_true rfl) ?_
  intro p_ e_ s_ m_ be_ me_ co_ ls H locs K hr hlk hnm ht hK hW hl
  obtain ⟨hx, hb, hml, hown, hts⟩ := id K
  have hl : lv_has ls 6 [(0, .ref (ad 0)), (1, .int (iI (b))), (2, .int (iI (u))), (3, .int (iI (c))), (4, .int (iI (v)))] := hl
  have h80 := wf_8 hwf 0
  have h310 := wf_31 hwf 0
  refine lv_iload_n hx hb dX11_limit_0 rfl (lv_at hl 1 rfl) ?_
  refine xi_bipush hx hb dX11_limit_1 (by decide) ?_
  refine g_xcallS (As := [.int (iI (b)), .int (iI (6))]) (rest := []) K (c_X11_needPlace (b) (6) ⟨by omega, by omega⟩ ⟨by omega, by omega⟩ hst) (va_cwS 2 hts gC_X11_16 rfl rfl rfl (by decide +kernel) ⟨Nat.le_of_ble_eq_true rfl, Nat.le_of_ble_eq_true rfl⟩) hK hW rfl hl.1 rfl (Nat.le_of_ble_eq_true rfl) dX11_limit_3 ⟨by dsimp only; omega, by dsimp only; omega⟩ (fun E_ ce_ q9_ H1 locs1 hE hW1 h1_ h2_ h3_ => g_outX ht hlk hW1 (fun _ _ h => h) (by obtain ⟨rfl, hE⟩ := hE; exact (Or.inl ⟨(show (pLimit S b u c v).1 = 1 from sGo_1 (a := okBB b u c) (b := okLi b u v) (d := true) (by have hE2 := hE; (try simp only [okBB, okLi, sIn, Bool.and_eq_true, Bool.or_eq_true, Bool.and_eq_false_iff, Bool.or_eq_false_iff, decide_eq_true_eq, decide_eq_false_iff_not, Bool.not_eq_true, Bool.not_eq_false, Bool.not_eq_true', Bool.not_eq_false', Bool.not_true, Bool.not_false, Bool.true_and, Bool.and_true, Bool.false_and, Bool.and_false, Bool.true_or, Bool.or_true, Bool.false_or, Bool.or_false] at hE2); simp only [okBB, okLi, sIn, Bool.and_eq_true, Bool.or_eq_true, Bool.and_eq_false_iff, Bool.or_eq_false_iff, decide_eq_true_eq, decide_eq_false_iff_not, Bool.not_eq_true, Bool.not_eq_false, Bool.not_eq_true', Bool.not_eq_false', Bool.not_true, Bool.not_false, Bool.true_and, Bool.and_true, Bool.false_and, Bool.and_false, Bool.true_or, Bool.or_true, Bool.false_or, Bool.or_false]; omega)), rfl⟩)) h1_ h2_ h3_ (by first | omega | (dsimp only; omega)) (by first | omega | (dsimp only; omega))) (fun v_ f_ H locs hp hW => ?_)
  obtain ⟨hq_1, hpv, hpe⟩ := hp
  rw [hpe] at hW
  subst hpv
  (try simp only [Bool.and_eq_true, Bool.or_eq_true, Bool.and_eq_false_iff, Bool.or_eq_false_iff, decide_eq_true_eq, decide_eq_false_iff_not, Bool.not_eq_true, Bool.not_eq_false, Bool.not_eq_true', Bool.not_eq_false', Bool.not_true, Bool.not_false, Bool.true_and, Bool.and_true, Bool.false_and, Bool.and_false, Bool.true_or, Bool.or_true, Bool.false_or, Bool.or_false] at hq_1)
  refine lv_iload_n hx hb dX11_limit_6 rfl (lv_at hl 2 rfl) ?_
  refine xi_bipush hx hb dX11_limit_7 (by decide) ?_
  refine g_xcallS (As := [.int (iI (u)), .int (iI (6))]) (rest := []) K (c_X11_needPlace (u) (6) ⟨by omega, by omega⟩ ⟨by omega, by omega⟩ hst) (va_cwS 2 hts gC_X11_16 rfl rfl rfl (by decide +kernel) ⟨Nat.le_of_ble_eq_true rfl, Nat.le_of_ble_eq_true rfl⟩) hK hW rfl hl.1 rfl (Nat.le_of_ble_eq_true rfl) dX11_limit_9 ⟨by dsimp only; omega, by dsimp only; omega⟩ (fun E_ ce_ q9_ H1 locs1 hE hW1 h1_ h2_ h3_ => g_outX ht hlk hW1 (fun _ _ h => h) (by obtain ⟨rfl, hE⟩ := hE; exact (Or.inl ⟨(show (pLimit S b u c v).1 = 1 from sGo_1 (a := okBB b u c) (b := okLi b u v) (d := true) (by have hE2 := hE; (try simp only [okBB, okLi, sIn, Bool.and_eq_true, Bool.or_eq_true, Bool.and_eq_false_iff, Bool.or_eq_false_iff, decide_eq_true_eq, decide_eq_false_iff_not, Bool.not_eq_true, Bool.not_eq_false, Bool.not_eq_true', Bool.not_eq_false', Bool.not_true, Bool.not_false, Bool.true_and, Bool.and_true, Bool.false_and, Bool.and_false, Bool.true_or, Bool.or_true, Bool.false_or, Bool.or_false] at hE2); simp only [okBB, okLi, sIn, Bool.and_eq_true, Bool.or_eq_true, Bool.and_eq_false_iff, Bool.or_eq_false_iff, decide_eq_true_eq, decide_eq_false_iff_not, Bool.not_eq_true, Bool.not_eq_false, Bool.not_eq_true', Bool.not_eq_false', Bool.not_true, Bool.not_false, Bool.true_and, Bool.and_true, Bool.false_and, Bool.and_false, Bool.true_or, Bool.or_true, Bool.false_or, Bool.or_false]; omega)), rfl⟩)) h1_ h2_ h3_ (by first | omega | (dsimp only; omega)) (by first | omega | (dsimp only; omega))) (fun v_ f_ H locs hp hW => ?_)
  obtain ⟨hq_2, hpv, hpe⟩ := hp
  rw [hpe] at hW
  subst hpv
  (try simp only [Bool.and_eq_true, Bool.or_eq_true, Bool.and_eq_false_iff, Bool.or_eq_false_iff, decide_eq_true_eq, decide_eq_false_iff_not, Bool.not_eq_true, Bool.not_eq_false, Bool.not_eq_true', Bool.not_eq_false', Bool.not_true, Bool.not_false, Bool.true_and, Bool.and_true, Bool.false_and, Bool.and_false, Bool.true_or, Bool.or_true, Bool.false_or, Bool.or_false] at hq_2)
  refine lv_iload_n hx hb dX11_limit_12 rfl (lv_at hl 3 rfl) ?_
  refine xi_iconst hx hb dX11_limit_13 ?_
  refine g_xcallS (As := [.int (iI (c)), .int (iI (3))]) (rest := []) K (c_X11_needPlace (c) (3) ⟨by omega, by omega⟩ ⟨by omega, by omega⟩ hst) (va_cwS 2 hts gC_X11_16 rfl rfl rfl (by decide +kernel) ⟨Nat.le_of_ble_eq_true rfl, Nat.le_of_ble_eq_true rfl⟩) hK hW rfl hl.1 rfl (Nat.le_of_ble_eq_true rfl) dX11_limit_14 ⟨by dsimp only; omega, by dsimp only; omega⟩ (fun E_ ce_ q9_ H1 locs1 hE hW1 h1_ h2_ h3_ => g_outX ht hlk hW1 (fun _ _ h => h) (by obtain ⟨rfl, hE⟩ := hE; exact (Or.inl ⟨(show (pLimit S b u c v).1 = 1 from sGo_1 (a := okBB b u c) (b := okLi b u v) (d := true) (by have hE2 := hE; (try simp only [okBB, okLi, sIn, Bool.and_eq_true, Bool.or_eq_true, Bool.and_eq_false_iff, Bool.or_eq_false_iff, decide_eq_true_eq, decide_eq_false_iff_not, Bool.not_eq_true, Bool.not_eq_false, Bool.not_eq_true', Bool.not_eq_false', Bool.not_true, Bool.not_false, Bool.true_and, Bool.and_true, Bool.false_and, Bool.and_false, Bool.true_or, Bool.or_true, Bool.false_or, Bool.or_false] at hE2); simp only [okBB, okLi, sIn, Bool.and_eq_true, Bool.or_eq_true, Bool.and_eq_false_iff, Bool.or_eq_false_iff, decide_eq_true_eq, decide_eq_false_iff_not, Bool.not_eq_true, Bool.not_eq_false, Bool.not_eq_true', Bool.not_eq_false', Bool.not_true, Bool.not_false, Bool.true_and, Bool.and_true, Bool.false_and, Bool.and_false, Bool.true_or, Bool.or_true, Bool.false_or, Bool.or_false]; omega)), rfl⟩)) h1_ h2_ h3_ (by first | omega | (dsimp only; omega)) (by first | omega | (dsimp only; omega))) (fun v_ f_ H locs hp hW => ?_)
  obtain ⟨hq_3, hpv, hpe⟩ := hp
  rw [hpe] at hW
  subst hpv
  (try simp only [Bool.and_eq_true, Bool.or_eq_true, Bool.and_eq_false_iff, Bool.or_eq_false_iff, decide_eq_true_eq, decide_eq_false_iff_not, Bool.not_eq_true, Bool.not_eq_false, Bool.not_eq_true', Bool.not_eq_false', Bool.not_true, Bool.not_false, Bool.true_and, Bool.and_true, Bool.false_and, Bool.and_false, Bool.true_or, Bool.or_true, Bool.false_or, Bool.or_false] at hq_3)
  refine lv_iload_n hx hb dX11_limit_17 rfl (lv_at hl 1 rfl) ?_
  refine lv_iload_n hx hb dX11_limit_18 rfl (lv_at hl 2 rfl) ?_
  refine g_xcallS (As := [.int (iI (b)), .int (iI (u))]) (rest := []) K (c_X11_needTwoBanks (b) (u) ⟨by omega, by omega⟩ ⟨by omega, by omega⟩ hst) (va_cwS 2 hts gC_X11_47 rfl rfl rfl (by decide +kernel) ⟨Nat.le_of_ble_eq_true rfl, Nat.le_of_ble_eq_true rfl⟩) hK hW rfl hl.1 rfl (Nat.le_of_ble_eq_true rfl) dX11_limit_19 ⟨by dsimp only; omega, by dsimp only; omega⟩ (fun E_ ce_ q9_ H1 locs1 hE hW1 h1_ h2_ h3_ => g_outX ht hlk hW1 (fun _ _ h => h) (by obtain ⟨rfl, hE⟩ := hE; exact (Or.inr ⟨(show (pLimit S b u c v).1 = 2 from sGo_2 (a := okBB b u c) (b := okLi b u v) (d := true) (by (try simp only [okBB, okLi, sIn, Bool.and_eq_true, Bool.or_eq_true, Bool.and_eq_false_iff, Bool.or_eq_false_iff, decide_eq_true_eq, decide_eq_false_iff_not, Bool.not_eq_true, Bool.not_eq_false, Bool.not_eq_true', Bool.not_eq_false', Bool.not_true, Bool.not_false, Bool.true_and, Bool.and_true, Bool.false_and, Bool.and_false, Bool.true_or, Bool.or_true, Bool.false_or, Bool.or_false]); first | done | rfl | omega) (by have hE2 := hE; (try simp only [okBB, okLi, sIn, Bool.and_eq_true, Bool.or_eq_true, Bool.and_eq_false_iff, Bool.or_eq_false_iff, decide_eq_true_eq, decide_eq_false_iff_not, Bool.not_eq_true, Bool.not_eq_false, Bool.not_eq_true', Bool.not_eq_false', Bool.not_true, Bool.not_false, Bool.true_and, Bool.and_true, Bool.false_and, Bool.and_false, Bool.true_or, Bool.or_true, Bool.false_or, Bool.or_false] at hE2); simp only [okBB, okLi, sIn, Bool.and_eq_true, Bool.or_eq_true, Bool.and_eq_false_iff, Bool.or_eq_false_iff, decide_eq_true_eq, decide_eq_false_iff_not, Bool.not_eq_true, Bool.not_eq_false, Bool.not_eq_true', Bool.not_eq_false', Bool.not_true, Bool.not_false, Bool.true_and, Bool.and_true, Bool.false_and, Bool.and_false, Bool.true_or, Bool.or_true, Bool.false_or, Bool.or_false]; omega)), rfl⟩)) h1_ h2_ h3_ (by first | omega | (dsimp only; omega)) (by first | omega | (dsimp only; omega))) (fun v_ f_ H locs hp hW => ?_)
  obtain ⟨hq_4, hpv, hpe⟩ := hp
  rw [hpe] at hW
  subst hpv
  (try simp only [Bool.and_eq_true, Bool.or_eq_true, Bool.and_eq_false_iff, Bool.or_eq_false_iff, decide_eq_true_eq, decide_eq_false_iff_not, Bool.not_eq_true, Bool.not_eq_false, Bool.not_eq_true', Bool.not_eq_false', Bool.not_true, Bool.not_false, Bool.true_and, Bool.and_true, Bool.false_and, Bool.and_false, Bool.true_or, Bool.or_true, Bool.false_or, Bool.or_false] at hq_4)
  refine lv_iload hx hb dX11_limit_22 (lv_at hl 4 rfl) ?_
  refine xi_iconst hx hb dX11_limit_24 ?_
  refine xi_ldc hx hb 1000000 (by decide) hown (hts _ kC_X11_20) dX11_limit_25 ?_
  refine g_xcallS (As := [.int (iI (v)), .int (iI ((-1))), .int (iI (1000000))]) (rest := []) K (c_X11_needRange (v) ((-1)) (1000000) ⟨by omega, by omega⟩ ⟨by omega, by omega⟩ ⟨by omega, by omega⟩ hst) (va_cwS 3 hts gC_X11_21 rfl rfl rfl (by decide +kernel) ⟨Nat.le_of_ble_eq_true rfl, Nat.le_of_ble_eq_true rfl⟩) hK hW rfl hl.1 rfl (Nat.le_of_ble_eq_true rfl) dX11_limit_27 ⟨by dsimp only; omega, by dsimp only; omega⟩ (fun E_ ce_ q9_ H1 locs1 hE hW1 h1_ h2_ h3_ => g_outX ht hlk hW1 (fun _ _ h => h) (by obtain ⟨rfl, hE⟩ := hE; exact (Or.inr ⟨(show (pLimit S b u c v).1 = 2 from sGo_2 (a := okBB b u c) (b := okLi b u v) (d := true) (by (try simp only [okBB, okLi, sIn, Bool.and_eq_true, Bool.or_eq_true, Bool.and_eq_false_iff, Bool.or_eq_false_iff, decide_eq_true_eq, decide_eq_false_iff_not, Bool.not_eq_true, Bool.not_eq_false, Bool.not_eq_true', Bool.not_eq_false', Bool.not_true, Bool.not_false, Bool.true_and, Bool.and_true, Bool.false_and, Bool.and_false, Bool.true_or, Bool.or_true, Bool.false_or, Bool.or_false]); first | done | rfl | omega) (by have hE2 := hE; (try simp only [okBB, okLi, sIn, Bool.and_eq_true, Bool.or_eq_true, Bool.and_eq_false_iff, Bool.or_eq_false_iff, decide_eq_true_eq, decide_eq_false_iff_not, Bool.not_eq_true, Bool.not_eq_false, Bool.not_eq_true', Bool.not_eq_false', Bool.not_true, Bool.not_false, Bool.true_and, Bool.and_true, Bool.false_and, Bool.and_false, Bool.true_or, Bool.or_true, Bool.false_or, Bool.or_false] at hE2); simp only [okBB, okLi, sIn, Bool.and_eq_true, Bool.or_eq_true, Bool.and_eq_false_iff, Bool.or_eq_false_iff, decide_eq_true_eq, decide_eq_false_iff_not, Bool.not_eq_true, Bool.not_eq_false, Bool.not_eq_true', Bool.not_eq_false', Bool.not_true, Bool.not_false, Bool.true_and, Bool.and_true, Bool.false_and, Bool.and_false, Bool.true_or, Bool.or_true, Bool.false_or, Bool.or_false]; omega)), rfl⟩)) h1_ h2_ h3_ (by first | omega | (dsimp only; omega)) (by first | omega | (dsimp only; omega))) (fun v_ f_ H locs hp hW => ?_)
  obtain ⟨hq_5, hpv, hpe⟩ := hp
  rw [hpe] at hW
  subst hpv
  (try simp only [Bool.and_eq_true, Bool.or_eq_true, Bool.and_eq_false_iff, Bool.or_eq_false_iff, decide_eq_true_eq, decide_eq_false_iff_not, Bool.not_eq_true, Bool.not_eq_false, Bool.not_eq_true', Bool.not_eq_false', Bool.not_true, Bool.not_false, Bool.true_and, Bool.and_true, Bool.false_and, Bool.and_false, Bool.true_or, Bool.or_true, Bool.false_or, Bool.or_false] at hq_5)
  refine lv_aload_n hx hb dX11_limit_30 rfl (lv_at hl 0 rfl) ?_
  refine g_get (ref := RX11) (T := TX11) (N := 1) (ci := 12) hx hb hts wsC_X11 hown hK hW (100000 + 0) (kW_at rfl) rfl 0 (by decide) (hts _ lC_X11_10) (fun x h => h) (v := .ref (ad 1)) rfl dX11_limit_31 ?_
  refine g_get (ref := RX6) (T := TX6) (N := 8) (ci := 7) hx hb hts wsC_X6 hown hK hW (100000 + 1) (kW_at rfl) rfl 1 (by decide) (hts _ lC_X11_25) (fun x h => h) (v := .ref (ad 3)) rfl dX11_limit_34 ?_
  refine lv_iload_n hx hb dX11_limit_37 rfl (lv_at hl 1 rfl) ?_
  refine lv_iload_n hx hb dX11_limit_38 rfl (lv_at hl 2 rfl) ?_
  refine lv_iload_n hx hb dX11_limit_39 rfl (lv_at hl 3 rfl) ?_
  refine g_callS (As := [.int (iI (b)), .int (iI (u)), .int (iI (c))]) (rest := [.ref (ad 3)]) K (c_X11_pairSlot (b) (u) (c)) (va_cwS 3 hts gC_X11_50 rfl rfl rfl (by decide +kernel) ⟨Nat.le_of_ble_eq_true rfl, Nat.le_of_ble_eq_true rfl⟩) hK hW rfl hl.1 rfl (Nat.le_of_ble_eq_true rfl) dX11_limit_40 ⟨by dsimp only; omega, by dsimp only; omega⟩ (fun v_ f_ H locs hp hW => ?_)
  obtain ⟨hpv, hpe⟩ := hp
  rw [hpe] at hW
  subst hpv
  refine lv_iload hx hb dX11_limit_43 (lv_at hl 4 rfl) ?_
  refine g_callV (i := 100000 + 3) (As := [.int (iI (3 * (6 * b + u) + c)), .int (iI (v))]) (rest := []) K (c_X0_changeLimit (3 * (6 * b + u) + c) (v) hwf ⟨by omega, by omega⟩ ⟨by omega, by omega⟩) (cwV 2 hts gC_X11_53 rfl rfl rfl (by decide +kernel) ⟨Nat.le_of_ble_eq_true rfl, Nat.le_of_ble_eq_true rfl⟩) hK hW (kW_at rfl) rfl rfl hl.1 rfl (Nat.le_of_ble_eq_true rfl) dX11_limit_45 ⟨by dsimp only; omega, by dsimp only; omega⟩ (fun v_ f_ H locs hp hW => ?_)
  obtain ⟨hpv, hpe⟩ := hp
  rw [hpe] at hW
  have hpv : v_ = some (.int (iI (S.1 3 (3 * (6 * b + u) + c)))) := hpv
  subst hpv
  refine lv_istore (lv' := [(5, .int (iI (S.1 3 (3 * (6 * b + u) + c)))), (0, .ref (ad 0)), (1, .int (iI (b))), (2, .int (iI (u))), (3, .int (iI (c))), (4, .int (iI (v)))]) hx hb dX11_limit_48 hl (by decide) rfl (fun ls hl => ?_)
  refine lv_aload_n hx hb dX11_limit_50 rfl (lv_at hl 1 rfl) ?_
  refine g_get (ref := RX11) (T := TX11) (N := 1) (ci := 12) hx hb hts wsC_X11 hown hK hW (100000 + 0) (kW_at rfl) rfl 0 (by decide) (hts _ lC_X11_10) (fun x h => h) (v := .ref (ad 1)) rfl dX11_limit_51 ?_
  obtain ⟨T, hT⟩ : ∃ x : ST, x = (pI S 3 (3 * (6 * b + u) + c) (v)) := ⟨_, rfl⟩
  rw [← hT] at hW
  have hRo : okS T := by rw [hT]; exact okS_pI ho _ _ (by decide) (by simp only [rLo, rHi]; omega)
  have hT8 : T.1 8 = S.1 8 := by rw [hT]; exact pI_f _ _ _ (by decide)
  have hT21 : T.1 21 = S.1 21 := by rw [hT]; exact pI_f _ _ _ (by decide)
  have hTe : T.1 31 0 + cNF T ≤ S.1 31 0 + cNF S + 1 := by rw [hT, pI_f _ _ _ (by decide), cNF_pI (by decide)]; omega
  have hTn : nE T = nE S := nE_f (by rw [hT]; exact pI_f _ _ _ (by decide))
  have hTc1 : kTc (nE T) = kTc (nE S) := by rw [hTn]
  have hTc2 : kTs (nE T) = kTs (nE S) := by rw [hTn]
  have hRb : nE T = 0 → bk 10 = D.1 21 := fun h => hE0 (by rw [← hTn]; exact h)
  have hRl : legW T := legW_of (congrFun hT8 0) hT21 hlw
  have hRe : T.1 31 0 + cNF T < 20000 := by omega
  have hRr := (sRuns_ok hRo).1
  have hRn := rdP_n hRo.1 (rdP_runs hRo)
  have hNP : nP (sRuns T).2 = nP S := (nP_runs hRo).trans (by unfold nP; rw [hT8])
  have t1 := kTc_le (show nE T ≤ nE (sRuns T).2 by omega)
  have t2 := kTs_le (show nE T ≤ nE (sRuns T).2 by omega)
  have hcA : (okBB b u c) = true := (by (try simp only [okBB, okLi, sIn, Bool.and_eq_true, Bool.or_eq_true, Bool.and_eq_false_iff, Bool.or_eq_false_iff, decide_eq_true_eq, decide_eq_false_iff_not, Bool.not_eq_true, Bool.not_eq_false, Bool.not_eq_true', Bool.not_eq_false', Bool.not_true, Bool.not_false, Bool.true_and, Bool.and_true, Bool.false_and, Bool.and_false, Bool.true_or, Bool.or_true, Bool.false_or, Bool.or_false]); first | done | rfl | omega)
  have hcB : (okLi b u v) = true := (by (try simp only [okBB, okLi, sIn, Bool.and_eq_true, Bool.or_eq_true, Bool.and_eq_false_iff, Bool.or_eq_false_iff, decide_eq_true_eq, decide_eq_false_iff_not, Bool.not_eq_true, Bool.not_eq_false, Bool.not_eq_true', Bool.not_eq_false', Bool.not_true, Bool.not_false, Bool.true_and, Bool.and_true, Bool.false_and, Bool.and_false, Bool.true_or, Bool.or_true, Bool.false_or, Bool.or_false]); first | done | rfl | omega)
  have hcC : (true) = true := (by (try simp only [okBB, okLi, sIn, Bool.and_eq_true, Bool.or_eq_true, Bool.and_eq_false_iff, Bool.or_eq_false_iff, decide_eq_true_eq, decide_eq_false_iff_not, Bool.not_eq_true, Bool.not_eq_false, Bool.not_eq_true', Bool.not_eq_false', Bool.not_true, Bool.not_false, Bool.true_and, Bool.and_true, Bool.false_and, Bool.and_false, Bool.true_or, Bool.or_true, Bool.false_or, Bool.or_false]); first | done | rfl | omega)
  have hsp : pLimit S b u c v = (0, S.1 3 (3 * (6 * b + u) + c), (sRuns T).2) := by unfold pLimit; rw [sGo_00 hcA hcB hcC, if_pos (show ((okBB b u c) && (okLi b u v) && (true)) = true by rw [hcA, hcB, hcC]; rfl)]; rw [hT]
  have hM1 : kTc (nE ((pLimit S b u c v).2.2)) = kTc (nE (sRuns T).2) := by rw [hsp]
  have hM2 : kTs (nE ((pLimit S b u c v).2.2)) = kTs (nE (sRuns T).2) := by rw [hsp]
  refine g_callV (i := 100000 + 1) (As := []) (rest := []) K (c_X6_runQueues (S := T) hRo.1 hRo hRl hRe hG0 hRb) (cwV 0 hts gC_X11_35 rfl rfl rfl (by decide +kernel) ⟨Nat.le_of_ble_eq_true rfl, Nat.le_of_ble_eq_true rfl⟩) hK hW (kW_at rfl) rfl rfl hl.1 rfl (Nat.le_of_ble_eq_true rfl) dX11_limit_54 ⟨by dsimp only; omega, by dsimp only; omega⟩ (fun v_ f_ H locs hp hW => ?_)
  obtain ⟨bk9, I9, c9, q9, hpv, hb9, hpe⟩ := hp
  rw [hpe] at hW
  subst hpv
  refine lv_pop hx hb dX11_limit_57 rfl ?_
  refine lv_iload hx hb dX11_limit_58 (lv_at hl 0 rfl) ?_
  exact W.widen (by first | omega | (dsimp only; omega)) (by first | omega | (dsimp only; omega)) (vx_ret (g_iret hx hb hr hW ⟨by rw [hsp], ad, bk9, I9, c9, q9, rfl, fun h => hP0 (by rw [hsp] at h; rw [← hNP]; exact h), fun h => hb9 (by rw [hsp] at h; exact h), by rw [hsp], by rw [hsp]⟩ dX11_limit_60 hlk))
set_option maxHeartbeats 4000000 in
set_option maxRecDepth 100000 in
theorem c_X11_out {l : Launch} {D : va_G} {cy : Nat → ClassId} {B0 : Nat} {ad bk : Nat → Nat} {S : ST} {I : Int → Bool} {cX qX : Int → Int64} {G : gF} (b : Int) (is : Bool) (hwf : wf S) (h_b : rI b) (ho : okS S) (hlw : legW S) (he : S.1 31 0 + cNF S < 19900) (hG0 : G 50001 = none) (hG2 : G 50002 = none) (hG3 : G 50003 = none) (hP0 : nP S = 0 → ad 11 = D.1 21) (hE0 : nE S = 0 → bk 10 = D.1 21)  (hst : l.stackTraces = false) : gX l yX11_out vX11_out 13 297 D cy B0 [.ref (ad 0), .int (iI (b)), .int (iI (bI (is)))] (kW cy ad bk S (I, cX, qX) G) (fun r g_ => (pOut S b is).1 = 0 ∧ ∃ (ad2 bk2 : Nat → Nat) (I2 : Int → Bool) (c2 q2 : Int → Int64), ad2 0 = ad 0 ∧ (nP (pOut S b is).2.2 = 0 → ad2 11 = D.1 21) ∧ (nE (pOut S b is).2.2 = 0 → bk2 10 = D.1 21) ∧ r = some (.int (iI (pOut S b is).2.1)) ∧ g_ = kW cy ad2 bk2 (pOut S b is).2.2 (I2, c2, q2) G) (fun E_ => ((pOut S b is).1 = 1 ∧ E_ = xIO)) (kTc (nE (pOut S b is).2.2) - kTc (nE S) + 16) (kTs (nE (pOut S b is).2.2) - kTs (nE S) + 400) := by
  refine g_startX (cc := cX11_out) (maxL := 4) (ret := (some .boolean)) (by decide) rfl (Nat.le_of_ble_eq_true rfl) ?_
  intro p_ e_ s_ m_ be_ me_ co_ ls H locs K hr hlk hnm ht hK hW hl
  obtain ⟨hx, hb, hml, hown, hts⟩ := id K
  have hl : lv_has ls 4 [(0, .ref (ad 0)), (1, .int (iI (b))), (2, .int (iI (bI (is))))] := hl
  have h80 := wf_8 hwf 0
  have h310 := wf_31 hwf 0
  refine lv_iload_n hx hb dX11_out_0 rfl (lv_at hl 1 rfl) ?_
  refine xi_bipush hx hb dX11_out_1 (by decide) ?_
  refine g_xcallS (As := [.int (iI (b)), .int (iI (6))]) (rest := []) K (c_X11_needPlace (b) (6) ⟨by omega, by omega⟩ ⟨by omega, by omega⟩ hst) (va_cwS 2 hts gC_X11_16 rfl rfl rfl (by decide +kernel) ⟨Nat.le_of_ble_eq_true rfl, Nat.le_of_ble_eq_true rfl⟩) hK hW rfl hl.1 rfl (Nat.le_of_ble_eq_true rfl) dX11_out_3 ⟨by dsimp only; omega, by dsimp only; omega⟩ (fun E_ ce_ q9_ H1 locs1 hE hW1 h1_ h2_ h3_ => g_outX ht hlk hW1 (fun _ _ h => h) (by obtain ⟨rfl, hE⟩ := hE; exact ⟨(show (pOut S b is).1 = 1 from sGo_1 (a := sIn b 0 5) (b := true) (d := true) (by have hE2 := hE; (try simp only [sIn, Bool.and_eq_true, Bool.or_eq_true, Bool.and_eq_false_iff, Bool.or_eq_false_iff, decide_eq_true_eq, decide_eq_false_iff_not, Bool.not_eq_true, Bool.not_eq_false, Bool.not_eq_true', Bool.not_eq_false', Bool.not_true, Bool.not_false, Bool.true_and, Bool.and_true, Bool.false_and, Bool.and_false, Bool.true_or, Bool.or_true, Bool.false_or, Bool.or_false] at hE2); simp only [sIn, Bool.and_eq_true, Bool.or_eq_true, Bool.and_eq_false_iff, Bool.or_eq_false_iff, decide_eq_true_eq, decide_eq_false_iff_not, Bool.not_eq_true, Bool.not_eq_false, Bool.not_eq_true', Bool.not_eq_false', Bool.not_true, Bool.not_false, Bool.true_and, Bool.and_true, Bool.false_and, Bool.and_false, Bool.true_or, Bool.or_true, Bool.false_or, Bool.or_false]; omega)), rfl⟩) h1_ h2_ h3_ (by first | omega | (dsimp only; omega)) (by first | omega | (dsimp only; omega))) (fun v_ f_ H locs hp hW => ?_)
  obtain ⟨hq_1, hpv, hpe⟩ := hp
  rw [hpe] at hW
  subst hpv
  (try simp only [Bool.and_eq_true, Bool.or_eq_true, Bool.and_eq_false_iff, Bool.or_eq_false_iff, decide_eq_true_eq, decide_eq_false_iff_not, Bool.not_eq_true, Bool.not_eq_false, Bool.not_eq_true', Bool.not_eq_false', Bool.not_true, Bool.not_false, Bool.true_and, Bool.and_true, Bool.false_and, Bool.and_false, Bool.true_or, Bool.or_true, Bool.false_or, Bool.or_false] at hq_1)
  refine lv_aload_n hx hb dX11_out_6 rfl (lv_at hl 0 rfl) ?_
  refine g_get (ref := RX11) (T := TX11) (N := 1) (ci := 12) hx hb hts wsC_X11 hown hK hW (100000 + 0) (kW_at rfl) rfl 0 (by decide) (hts _ lC_X11_10) (fun x h => h) (v := .ref (ad 1)) rfl dX11_out_7 ?_
  refine g_get (ref := RX6) (T := TX6) (N := 8) (ci := 7) hx hb hts wsC_X6 hown hK hW (100000 + 1) (kW_at rfl) rfl 4 (by decide) (hts _ lC_X11_57) (fun x h => h) (v := .ref (ad 30)) rfl dX11_out_10 ?_
  refine lv_iload_n hx hb dX11_out_13 rfl (lv_at hl 1 rfl) ?_
  refine g_callV (i := 100000 + 30) (As := [.int (iI (b))]) (rest := []) K (c_X9_isSet (i := 100000 + 30) (j := 100000 + (40 + 10)) (b) (kW_at rfl) (kW_at (kC_row (r := 10) (by decide))) (by decide) (by decide) (show 0 ≤ (b) ∧ (b) < ((6 : Nat) : Int) from ⟨by omega, by omega⟩)) (cwV 1 hts gC_X11_61 rfl rfl rfl (by decide +kernel) ⟨Nat.le_of_ble_eq_true rfl, Nat.le_of_ble_eq_true rfl⟩) hK hW (kW_at rfl) rfl rfl hl.1 rfl (Nat.le_of_ble_eq_true rfl) dX11_out_14 ⟨by dsimp only; omega, by dsimp only; omega⟩ (fun v_ f_ H locs hp hW => ?_)
  obtain ⟨hpv, hpe⟩ := hp
  rw [hpe] at hW
  have w_2 := wf_5 hwf (b)
  have hpv : v_ = some (.int (iI (bI (!decide (Int64.ofInt (S.1 5 (b)) = 0))))) := hpv
  rw [show decide (Int64.ofInt (S.1 5 (b)) = 0) = decide ((S.1 5 (b)) = 0) from decide_eq_decide.mpr (ofInt_0 ⟨by omega, by omega⟩)] at hpv
  subst hpv
  refine lv_istore_n (lv' := [(3, .int (iI (bI (!decide ((S.1 5 (b)) = 0))))), (0, .ref (ad 0)), (1, .int (iI (b))), (2, .int (iI (bI (is))))]) hx hb dX11_out_17 rfl hl (by decide) rfl (fun ls hl => ?_)
  refine lv_aload_n hx hb dX11_out_18 rfl (lv_at hl 1 rfl) ?_
  refine g_get (ref := RX11) (T := TX11) (N := 1) (ci := 12) hx hb hts wsC_X11 hown hK hW (100000 + 0) (kW_at rfl) rfl 0 (by decide) (hts _ lC_X11_10) (fun x h => h) (v := .ref (ad 1)) rfl dX11_out_19 ?_
  refine g_get (ref := RX6) (T := TX6) (N := 8) (ci := 7) hx hb hts wsC_X6 hown hK hW (100000 + 1) (kW_at rfl) rfl 4 (by decide) (hts _ lC_X11_57) (fun x h => h) (v := .ref (ad 30)) rfl dX11_out_22 ?_
  refine lv_iload_n hx hb dX11_out_25 rfl (lv_at hl 2 rfl) ?_
  refine lv_iload_n hx hb dX11_out_26 rfl (lv_at hl 3 rfl) ?_
  refine g_callV (i := 100000 + 30) (As := [.int (iI (b)), .int (iI (bI (is)))]) (rest := []) K (c_X9_mark (i := 100000 + 30) (j := 100000 + (40 + 10)) (b) (is) (kW_at rfl) (kW_at (kC_row (r := 10) (by decide))) (by decide) (by decide) (show 0 ≤ (b) ∧ (b) < ((6 : Nat) : Int) from ⟨by omega, by omega⟩)) (cwV 2 hts gC_X11_67 rfl rfl rfl (by decide +kernel) ⟨Nat.le_of_ble_eq_true rfl, Nat.le_of_ble_eq_true rfl⟩) hK hW (kW_at rfl) rfl rfl hl.1 rfl (Nat.le_of_ble_eq_true rfl) dX11_out_27 ⟨by dsimp only; omega, by dsimp only; omega⟩ (fun v_ f_ H locs hp hW => ?_)
  obtain ⟨hpv, hpe⟩ := hp
  rw [hpe.trans (show _ = kW cy ad bk (pI S 5 (b) (bI (is))) (I, cX, qX) G from by rw [mark_v]; exact kW_rI (cy := cy) (ad := ad) (bk := bk) (S := S) (X := (I, cX, qX)) (G := G) 10 (by decide) (z := b) (v := bI (is)) (by decide))] at hW
  subst hpv
  refine lv_aload_n hx hb dX11_out_30 rfl (lv_at hl 1 rfl) ?_
  refine g_get (ref := RX11) (T := TX11) (N := 1) (ci := 12) hx hb hts wsC_X11 hown hK hW (100000 + 0) (kW_at rfl) rfl 0 (by decide) (hts _ lC_X11_10) (fun x h => h) (v := .ref (ad 1)) rfl dX11_out_31 ?_
  obtain ⟨T, hT⟩ : ∃ x : ST, x = (pI S 5 (b) (bI (is))) := ⟨_, rfl⟩
  rw [← hT] at hW
  have hRo : okS T := by rw [hT]; exact okS_pI ho _ _ (by decide) (by have := bI_01 is; simp only [rLo, rHi]; omega)
  have hT8 : T.1 8 = S.1 8 := by rw [hT]; exact pI_f _ _ _ (by decide)
  have hT21 : T.1 21 = S.1 21 := by rw [hT]; exact pI_f _ _ _ (by decide)
  have hTe : T.1 31 0 + cNF T ≤ S.1 31 0 + cNF S + 1 := by rw [hT, pI_f _ _ _ (by decide), cNF_pI (by decide)]; omega
  have hTn : nE T = nE S := nE_f (by rw [hT]; exact pI_f _ _ _ (by decide))
  have hTc1 : kTc (nE T) = kTc (nE S) := by rw [hTn]
  have hTc2 : kTs (nE T) = kTs (nE S) := by rw [hTn]
  have hRb : nE T = 0 → bk 10 = D.1 21 := fun h => hE0 (by rw [← hTn]; exact h)
  have hRl : legW T := legW_of (congrFun hT8 0) hT21 hlw
  have hRe : T.1 31 0 + cNF T < 20000 := by omega
  have hRr := (sRuns_ok hRo).1
  have hRn := rdP_n hRo.1 (rdP_runs hRo)
  have hNP : nP (sRuns T).2 = nP S := (nP_runs hRo).trans (by unfold nP; rw [hT8])
  have t1 := kTc_le (show nE T ≤ nE (sRuns T).2 by omega)
  have t2 := kTs_le (show nE T ≤ nE (sRuns T).2 by omega)
  have hcA : (sIn b 0 5) = true := (by (try simp only [sIn, Bool.and_eq_true, Bool.or_eq_true, Bool.and_eq_false_iff, Bool.or_eq_false_iff, decide_eq_true_eq, decide_eq_false_iff_not, Bool.not_eq_true, Bool.not_eq_false, Bool.not_eq_true', Bool.not_eq_false', Bool.not_true, Bool.not_false, Bool.true_and, Bool.and_true, Bool.false_and, Bool.and_false, Bool.true_or, Bool.or_true, Bool.false_or, Bool.or_false]); first | done | rfl | omega)
  have hcB : (true) = true := (by (try simp only [sIn, Bool.and_eq_true, Bool.or_eq_true, Bool.and_eq_false_iff, Bool.or_eq_false_iff, decide_eq_true_eq, decide_eq_false_iff_not, Bool.not_eq_true, Bool.not_eq_false, Bool.not_eq_true', Bool.not_eq_false', Bool.not_true, Bool.not_false, Bool.true_and, Bool.and_true, Bool.false_and, Bool.and_false, Bool.true_or, Bool.or_true, Bool.false_or, Bool.or_false]); first | done | rfl | omega)
  have hcC : (true) = true := (by (try simp only [sIn, Bool.and_eq_true, Bool.or_eq_true, Bool.and_eq_false_iff, Bool.or_eq_false_iff, decide_eq_true_eq, decide_eq_false_iff_not, Bool.not_eq_true, Bool.not_eq_false, Bool.not_eq_true', Bool.not_eq_false', Bool.not_true, Bool.not_false, Bool.true_and, Bool.and_true, Bool.false_and, Bool.and_false, Bool.true_or, Bool.or_true, Bool.false_or, Bool.or_false]); first | done | rfl | omega)
  have hsp : pOut S b is = (0, S.1 5 b, (sRuns T).2) := by unfold pOut; rw [sGo_00 hcA hcB hcC, if_pos (show ((sIn b 0 5) && (true) && (true)) = true by rw [hcA, hcB, hcC]; rfl)]; rw [hT]
  have hM1 : kTc (nE ((pOut S b is).2.2)) = kTc (nE (sRuns T).2) := by rw [hsp]
  have hM2 : kTs (nE ((pOut S b is).2.2)) = kTs (nE (sRuns T).2) := by rw [hsp]
  refine g_callV (i := 100000 + 1) (As := []) (rest := []) K (c_X6_runQueues (S := T) hRo.1 hRo hRl hRe hG0 hRb) (cwV 0 hts gC_X11_35 rfl rfl rfl (by decide +kernel) ⟨Nat.le_of_ble_eq_true rfl, Nat.le_of_ble_eq_true rfl⟩) hK hW (kW_at rfl) rfl rfl hl.1 rfl (Nat.le_of_ble_eq_true rfl) dX11_out_34 ⟨by dsimp only; omega, by dsimp only; omega⟩ (fun v_ f_ H locs hp hW => ?_)
  obtain ⟨bk9, I9, c9, q9, hpv, hb9, hpe⟩ := hp
  rw [hpe] at hW
  subst hpv
  refine lv_pop hx hb dX11_out_37 rfl ?_
  refine lv_iload_n hx hb dX11_out_38 rfl (lv_at hl 0 rfl) ?_
  exact W.widen (by first | omega | (dsimp only; omega)) (by first | omega | (dsimp only; omega)) (vx_ret (g_zret hx hb hr (bI_01 _) hW ⟨by rw [hsp], ad, bk9, I9, c9, q9, rfl, fun h => hP0 (by rw [hsp] at h; rw [← hNP]; exact h), fun h => hb9 (by rw [hsp] at h; exact h), by rw [hsp]; rw [bI_nz (wf_5 hwf b)], by rw [hsp]⟩ dX11_out_39 hlk))
set_option maxHeartbeats 4000000 in
set_option maxRecDepth 100000 in
theorem c_X11_holiday {l : Launch} {D : va_G} {cy : Nat → ClassId} {B0 : Nat} {ad bk : Nat → Nat} {S : ST} {I : Int → Bool} {cX qX : Int → Int64} {G : gF} (c : Int) (d : Int) (is : Bool) (hwf : wf S) (h_c : rI c) (h_d : rI d) (ho : okS S) (hlw : legW S) (he : S.1 31 0 + cNF S < 19900) (hG0 : G 50001 = none) (hG2 : G 50002 = none) (hG3 : G 50003 = none) (hP0 : nP S = 0 → ad 11 = D.1 21) (hE0 : nE S = 0 → bk 10 = D.1 21)  (hst : l.stackTraces = false) : gX l yX11_holiday vX11_holiday 13 297 D cy B0 [.ref (ad 0), .int (iI (c)), .int (iI (d)), .int (iI (bI (is)))] (kW cy ad bk S (I, cX, qX) G) (fun r g_ => (pHoli S c d is).1 = 0 ∧ ∃ (ad2 bk2 : Nat → Nat) (I2 : Int → Bool) (c2 q2 : Int → Int64), ad2 0 = ad 0 ∧ (nP (pHoli S c d is).2.2 = 0 → ad2 11 = D.1 21) ∧ (nE (pHoli S c d is).2.2 = 0 → bk2 10 = D.1 21) ∧ r = some (.int (iI (pHoli S c d is).2.1)) ∧ g_ = kW cy ad2 bk2 (pHoli S c d is).2.2 (I2, c2, q2) G) (fun E_ => ((pHoli S c d is).1 = 1 ∧ E_ = xIO) ∨ ((pHoli S c d is).1 = 2 ∧ E_ = xIA)) (kTc (nE (pHoli S c d is).2.2) - kTc (nE S) + 16) (kTs (nE (pHoli S c d is).2.2) - kTs (nE S) + 400) := by
  refine g_startX (cc := cX11_holiday) (maxL := 4) (ret := (some .boolean)) (by decide) rfl (Nat.le_of_ble_eq_true rfl) ?_
  intro p_ e_ s_ m_ be_ me_ co_ ls H locs K hr hlk hnm ht hK hW hl
  obtain ⟨hx, hb, hml, hown, hts⟩ := id K
  have hl : lv_has ls 4 [(0, .ref (ad 0)), (1, .int (iI (c))), (2, .int (iI (d))), (3, .int (iI (bI (is))))] := hl
  have h80 := wf_8 hwf 0
  have h310 := wf_31 hwf 0
  refine lv_iload_n hx hb dX11_holiday_0 rfl (lv_at hl 1 rfl) ?_
  refine xi_iconst hx hb dX11_holiday_1 ?_
  refine g_xcallS (As := [.int (iI (c)), .int (iI (3))]) (rest := []) K (c_X11_needPlace (c) (3) ⟨by omega, by omega⟩ ⟨by omega, by omega⟩ hst) (va_cwS 2 hts gC_X11_16 rfl rfl rfl (by decide +kernel) ⟨Nat.le_of_ble_eq_true rfl, Nat.le_of_ble_eq_true rfl⟩) hK hW rfl hl.1 rfl (Nat.le_of_ble_eq_true rfl) dX11_holiday_2 ⟨by dsimp only; omega, by dsimp only; omega⟩ (fun E_ ce_ q9_ H1 locs1 hE hW1 h1_ h2_ h3_ => g_outX ht hlk hW1 (fun _ _ h => h) (by obtain ⟨rfl, hE⟩ := hE; exact (Or.inl ⟨(show (pHoli S c d is).1 = 1 from sGo_1 (a := sIn c 0 2) (b := sIn d 0 999) (d := true) (by have hE2 := hE; (try simp only [sIn, Bool.and_eq_true, Bool.or_eq_true, Bool.and_eq_false_iff, Bool.or_eq_false_iff, decide_eq_true_eq, decide_eq_false_iff_not, Bool.not_eq_true, Bool.not_eq_false, Bool.not_eq_true', Bool.not_eq_false', Bool.not_true, Bool.not_false, Bool.true_and, Bool.and_true, Bool.false_and, Bool.and_false, Bool.true_or, Bool.or_true, Bool.false_or, Bool.or_false] at hE2); simp only [sIn, Bool.and_eq_true, Bool.or_eq_true, Bool.and_eq_false_iff, Bool.or_eq_false_iff, decide_eq_true_eq, decide_eq_false_iff_not, Bool.not_eq_true, Bool.not_eq_false, Bool.not_eq_true', Bool.not_eq_false', Bool.not_true, Bool.not_false, Bool.true_and, Bool.and_true, Bool.false_and, Bool.and_false, Bool.true_or, Bool.or_true, Bool.false_or, Bool.or_false]; omega)), rfl⟩)) h1_ h2_ h3_ (by first | omega | (dsimp only; omega)) (by first | omega | (dsimp only; omega))) (fun v_ f_ H locs hp hW => ?_)
  obtain ⟨hq_1, hpv, hpe⟩ := hp
  rw [hpe] at hW
  subst hpv
  (try simp only [Bool.and_eq_true, Bool.or_eq_true, Bool.and_eq_false_iff, Bool.or_eq_false_iff, decide_eq_true_eq, decide_eq_false_iff_not, Bool.not_eq_true, Bool.not_eq_false, Bool.not_eq_true', Bool.not_eq_false', Bool.not_true, Bool.not_false, Bool.true_and, Bool.and_true, Bool.false_and, Bool.and_false, Bool.true_or, Bool.or_true, Bool.false_or, Bool.or_false] at hq_1)
  refine lv_iload_n hx hb dX11_holiday_5 rfl (lv_at hl 2 rfl) ?_
  refine xi_iconst hx hb dX11_holiday_6 ?_
  refine xi_sipush hx hb dX11_holiday_7 (by decide) ?_
  refine g_xcallS (As := [.int (iI (d)), .int (iI (0)), .int (iI (999))]) (rest := []) K (c_X11_needRange (d) (0) (999) ⟨by omega, by omega⟩ ⟨by omega, by omega⟩ ⟨by omega, by omega⟩ hst) (va_cwS 3 hts gC_X11_21 rfl rfl rfl (by decide +kernel) ⟨Nat.le_of_ble_eq_true rfl, Nat.le_of_ble_eq_true rfl⟩) hK hW rfl hl.1 rfl (Nat.le_of_ble_eq_true rfl) dX11_holiday_10 ⟨by dsimp only; omega, by dsimp only; omega⟩ (fun E_ ce_ q9_ H1 locs1 hE hW1 h1_ h2_ h3_ => g_outX ht hlk hW1 (fun _ _ h => h) (by obtain ⟨rfl, hE⟩ := hE; exact (Or.inr ⟨(show (pHoli S c d is).1 = 2 from sGo_2 (a := sIn c 0 2) (b := sIn d 0 999) (d := true) (by (try simp only [sIn, Bool.and_eq_true, Bool.or_eq_true, Bool.and_eq_false_iff, Bool.or_eq_false_iff, decide_eq_true_eq, decide_eq_false_iff_not, Bool.not_eq_true, Bool.not_eq_false, Bool.not_eq_true', Bool.not_eq_false', Bool.not_true, Bool.not_false, Bool.true_and, Bool.and_true, Bool.false_and, Bool.and_false, Bool.true_or, Bool.or_true, Bool.false_or, Bool.or_false]); first | done | rfl | omega) (by have hE2 := hE; (try simp only [sIn, Bool.and_eq_true, Bool.or_eq_true, Bool.and_eq_false_iff, Bool.or_eq_false_iff, decide_eq_true_eq, decide_eq_false_iff_not, Bool.not_eq_true, Bool.not_eq_false, Bool.not_eq_true', Bool.not_eq_false', Bool.not_true, Bool.not_false, Bool.true_and, Bool.and_true, Bool.false_and, Bool.and_false, Bool.true_or, Bool.or_true, Bool.false_or, Bool.or_false] at hE2); simp only [sIn, Bool.and_eq_true, Bool.or_eq_true, Bool.and_eq_false_iff, Bool.or_eq_false_iff, decide_eq_true_eq, decide_eq_false_iff_not, Bool.not_eq_true, Bool.not_eq_false, Bool.not_eq_true', Bool.not_eq_false', Bool.not_true, Bool.not_false, Bool.true_and, Bool.and_true, Bool.false_and, Bool.and_false, Bool.true_or, Bool.or_true, Bool.false_or, Bool.or_false]; omega)), rfl⟩)) h1_ h2_ h3_ (by first | omega | (dsimp only; omega)) (by first | omega | (dsimp only; omega))) (fun v_ f_ H locs hp hW => ?_)
  obtain ⟨hq_2, hpv, hpe⟩ := hp
  rw [hpe] at hW
  subst hpv
  (try simp only [Bool.and_eq_true, Bool.or_eq_true, Bool.and_eq_false_iff, Bool.or_eq_false_iff, decide_eq_true_eq, decide_eq_false_iff_not, Bool.not_eq_true, Bool.not_eq_false, Bool.not_eq_true', Bool.not_eq_false', Bool.not_true, Bool.not_false, Bool.true_and, Bool.and_true, Bool.false_and, Bool.and_false, Bool.true_or, Bool.or_true, Bool.false_or, Bool.or_false] at hq_2)
  refine lv_aload_n hx hb dX11_holiday_13 rfl (lv_at hl 0 rfl) ?_
  refine g_get (ref := RX11) (T := TX11) (N := 1) (ci := 12) hx hb hts wsC_X11 hown hK hW (100000 + 0) (kW_at rfl) rfl 0 (by decide) (hts _ lC_X11_10) (fun x h => h) (v := .ref (ad 1)) rfl dX11_holiday_14 ?_
  refine g_get (ref := RX6) (T := TX6) (N := 8) (ci := 7) hx hb hts wsC_X6 hown hK hW (100000 + 1) (kW_at rfl) rfl 0 (by decide) (hts _ lC_X11_71) (fun x h => h) (v := .ref (ad 2)) rfl dX11_holiday_17 ?_
  refine lv_iload_n hx hb dX11_holiday_20 rfl (lv_at hl 1 rfl) ?_
  refine lv_iload_n hx hb dX11_holiday_21 rfl (lv_at hl 2 rfl) ?_
  refine lv_iload_n hx hb dX11_holiday_22 rfl (lv_at hl 3 rfl) ?_
  refine g_callV (i := 100000 + 2) (As := [.int (iI (c)), .int (iI (d)), .int (iI (bI (is)))]) (rest := []) K (c_X4_changeHoliday (c) (d) (is) hwf ⟨by omega, by omega⟩ ⟨by omega, by omega⟩) (cwV 3 hts gC_X11_75 rfl rfl rfl (by decide +kernel) ⟨Nat.le_of_ble_eq_true rfl, Nat.le_of_ble_eq_true rfl⟩) hK hW (kW_at rfl) rfl rfl hl.1 rfl (Nat.le_of_ble_eq_true rfl) dX11_holiday_23 ⟨by dsimp only; omega, by dsimp only; omega⟩ (fun v_ f_ H locs hp hW => ?_)
  obtain ⟨hpv, hpe⟩ := hp
  rw [hpe] at hW
  subst hpv
  refine lv_aload_n hx hb dX11_holiday_26 rfl (lv_at hl 0 rfl) ?_
  refine g_get (ref := RX11) (T := TX11) (N := 1) (ci := 12) hx hb hts wsC_X11 hown hK hW (100000 + 0) (kW_at rfl) rfl 0 (by decide) (hts _ lC_X11_10) (fun x h => h) (v := .ref (ad 1)) rfl dX11_holiday_27 ?_
  obtain ⟨T, hT⟩ : ∃ x : ST, x = (pI S 6 (1000 * c + d) (bI is)) := ⟨_, rfl⟩
  rw [← hT] at hW
  have hRo : okS T := by rw [hT]; exact okS_pI ho _ _ (by decide) (by have := bI_01 is; simp only [rLo, rHi]; omega)
  have hT8 : T.1 8 = S.1 8 := by rw [hT]; exact pI_f _ _ _ (by decide)
  have hT21 : T.1 21 = S.1 21 := by rw [hT]; exact pI_f _ _ _ (by decide)
  have hTe : T.1 31 0 + cNF T ≤ S.1 31 0 + cNF S + 1 := by rw [hT, pI_f _ _ _ (by decide), cNF_pI (by decide)]; omega
  have hTn : nE T = nE S := nE_f (by rw [hT]; exact pI_f _ _ _ (by decide))
  have hTc1 : kTc (nE T) = kTc (nE S) := by rw [hTn]
  have hTc2 : kTs (nE T) = kTs (nE S) := by rw [hTn]
  have hRb : nE T = 0 → bk 10 = D.1 21 := fun h => hE0 (by rw [← hTn]; exact h)
  have hRl : legW T := legW_of (congrFun hT8 0) hT21 hlw
  have hRe : T.1 31 0 + cNF T < 20000 := by omega
  have hRr := (sRuns_ok hRo).1
  have hRn := rdP_n hRo.1 (rdP_runs hRo)
  have hNP : nP (sRuns T).2 = nP S := (nP_runs hRo).trans (by unfold nP; rw [hT8])
  have t1 := kTc_le (show nE T ≤ nE (sRuns T).2 by omega)
  have t2 := kTs_le (show nE T ≤ nE (sRuns T).2 by omega)
  have hcA : (sIn c 0 2) = true := (by (try simp only [sIn, Bool.and_eq_true, Bool.or_eq_true, Bool.and_eq_false_iff, Bool.or_eq_false_iff, decide_eq_true_eq, decide_eq_false_iff_not, Bool.not_eq_true, Bool.not_eq_false, Bool.not_eq_true', Bool.not_eq_false', Bool.not_true, Bool.not_false, Bool.true_and, Bool.and_true, Bool.false_and, Bool.and_false, Bool.true_or, Bool.or_true, Bool.false_or, Bool.or_false]); first | done | rfl | omega)
  have hcB : (sIn d 0 999) = true := (by (try simp only [sIn, Bool.and_eq_true, Bool.or_eq_true, Bool.and_eq_false_iff, Bool.or_eq_false_iff, decide_eq_true_eq, decide_eq_false_iff_not, Bool.not_eq_true, Bool.not_eq_false, Bool.not_eq_true', Bool.not_eq_false', Bool.not_true, Bool.not_false, Bool.true_and, Bool.and_true, Bool.false_and, Bool.and_false, Bool.true_or, Bool.or_true, Bool.false_or, Bool.or_false]); first | done | rfl | omega)
  have hcC : (true) = true := (by (try simp only [sIn, Bool.and_eq_true, Bool.or_eq_true, Bool.and_eq_false_iff, Bool.or_eq_false_iff, decide_eq_true_eq, decide_eq_false_iff_not, Bool.not_eq_true, Bool.not_eq_false, Bool.not_eq_true', Bool.not_eq_false', Bool.not_true, Bool.not_false, Bool.true_and, Bool.and_true, Bool.false_and, Bool.and_false, Bool.true_or, Bool.or_true, Bool.false_or, Bool.or_false]); first | done | rfl | omega)
  have hsp : pHoli S c d is = (0, bI (sOpen (sRuns T).2 c d), (sRuns T).2) := by unfold pHoli; rw [sGo_00 hcA hcB hcC, if_pos (show ((sIn c 0 2) && (sIn d 0 999) && (true)) = true by rw [hcA, hcB, hcC]; rfl)]; rw [hT]
  have hM1 : kTc (nE ((pHoli S c d is).2.2)) = kTc (nE (sRuns T).2) := by rw [hsp]
  have hM2 : kTs (nE ((pHoli S c d is).2.2)) = kTs (nE (sRuns T).2) := by rw [hsp]
  refine g_callV (i := 100000 + 1) (As := []) (rest := []) K (c_X6_runQueues (S := T) hRo.1 hRo hRl hRe hG0 hRb) (cwV 0 hts gC_X11_35 rfl rfl rfl (by decide +kernel) ⟨Nat.le_of_ble_eq_true rfl, Nat.le_of_ble_eq_true rfl⟩) hK hW (kW_at rfl) rfl rfl hl.1 rfl (Nat.le_of_ble_eq_true rfl) dX11_holiday_30 ⟨by dsimp only; omega, by dsimp only; omega⟩ (fun v_ f_ H locs hp hW => ?_)
  obtain ⟨bk9, I9, c9, q9, hpv, hb9, hpe⟩ := hp
  rw [hpe] at hW
  subst hpv
  refine lv_pop hx hb dX11_holiday_33 rfl ?_
  refine lv_aload_n hx hb dX11_holiday_34 rfl (lv_at hl 0 rfl) ?_
  refine g_get (ref := RX11) (T := TX11) (N := 1) (ci := 12) hx hb hts wsC_X11 hown hK hW (100000 + 0) (kW_at rfl) rfl 0 (by decide) (hts _ lC_X11_10) (fun x h => h) (v := .ref (ad 1)) rfl dX11_holiday_35 ?_
  refine g_get (ref := RX6) (T := TX6) (N := 8) (ci := 7) hx hb hts wsC_X6 hown hK hW (100000 + 1) (kW_at rfl) rfl 0 (by decide) (hts _ lC_X11_71) (fun x h => h) (v := .ref (ad 2)) rfl dX11_holiday_38 ?_
  refine lv_iload_n hx hb dX11_holiday_41 rfl (lv_at hl 1 rfl) ?_
  refine lv_iload_n hx hb dX11_holiday_42 rfl (lv_at hl 2 rfl) ?_
  refine g_callV (i := 100000 + 2) (As := [.int (iI (c)), .int (iI (d))]) (rest := []) K (c_X4_isOpen (c) (d) (hRr.1) ⟨by omega, by omega⟩ ⟨by omega, by omega⟩) (cwV 2 hts gC_X11_81 rfl rfl rfl (by decide +kernel) ⟨Nat.le_of_ble_eq_true rfl, Nat.le_of_ble_eq_true rfl⟩) hK hW (kW_at rfl) rfl rfl hl.1 rfl (Nat.le_of_ble_eq_true rfl) dX11_holiday_43 ⟨by dsimp only; omega, by dsimp only; omega⟩ (fun v_ f_ H locs hp hW => ?_)
  obtain ⟨hpv, hpe⟩ := hp
  rw [hpe] at hW
  have hpv : v_ = some (.int (iI (bI (sOpen (sRuns T).2 (c) (d))))) := hpv
  subst hpv
  exact W.widen (by first | omega | (dsimp only; omega)) (by first | omega | (dsimp only; omega)) (vx_ret (g_zret hx hb hr (bI_01 _) hW ⟨by rw [hsp], ad, bk9, I9, c9, q9, rfl, fun h => hP0 (by rw [hsp] at h; rw [← hNP]; exact h), fun h => hb9 (by rw [hsp] at h; exact h), by rw [hsp], by rw [hsp]⟩ dX11_holiday_46 hlk))
set_option maxHeartbeats 4000000 in
set_option maxRecDepth 100000 in
theorem c_X11_list {l : Launch} {D : va_G} {cy : Nat → ClassId} {B0 : Nat} {ad bk : Nat → Nat} {S : ST} {I : Int → Bool} {cX qX : Int → Int64} {G : gF} (nm : Int) (is : Bool) (hwf : wf S) (h_nm : rI nm) (ho : okS S) (hlw : legW S) (he : S.1 31 0 + cNF S < 19900) (hG0 : G 50001 = none) (hG2 : G 50002 = none) (hG3 : G 50003 = none) (hP0 : nP S = 0 → ad 11 = D.1 21) (hE0 : nE S = 0 → bk 10 = D.1 21)  (hst : l.stackTraces = false) : gX l yX11_list vX11_list 13 297 D cy B0 [.ref (ad 0), .int (iI (nm)), .int (iI (bI (is)))] (kW cy ad bk S (I, cX, qX) G) (fun r g_ => (pList S nm is).1 = 0 ∧ ∃ (ad2 bk2 : Nat → Nat) (I2 : Int → Bool) (c2 q2 : Int → Int64), ad2 0 = ad 0 ∧ (nP (pList S nm is).2.2 = 0 → ad2 11 = D.1 21) ∧ (nE (pList S nm is).2.2 = 0 → bk2 10 = D.1 21) ∧ r = some (.int (iI (pList S nm is).2.1)) ∧ g_ = kW cy ad2 bk2 (pList S nm is).2.2 (I2, c2, q2) G) (fun E_ => ((pList S nm is).1 = 1 ∧ E_ = xIO)) (kTc (nE (pList S nm is).2.2) - kTc (nE S) + 16) (kTs (nE (pList S nm is).2.2) - kTs (nE S) + 400) := by
  refine g_startX (cc := cX11_list) (maxL := 4) (ret := (some .int)) (by decide) rfl (Nat.le_of_ble_eq_true rfl) ?_
  intro p_ e_ s_ m_ be_ me_ co_ ls H locs K hr hlk hnm ht hK hW hl
  obtain ⟨hx, hb, hml, hown, hts⟩ := id K
  have hl : lv_has ls 4 [(0, .ref (ad 0)), (1, .int (iI (nm))), (2, .int (iI (bI (is))))] := hl
  have h80 := wf_8 hwf 0
  have h310 := wf_31 hwf 0
  refine lv_iload_n hx hb dX11_list_0 rfl (lv_at hl 1 rfl) ?_
  refine xi_bipush hx hb dX11_list_1 (by decide) ?_
  refine g_xcallS (As := [.int (iI (nm)), .int (iI (20))]) (rest := []) K (c_X11_needPlace (nm) (20) ⟨by omega, by omega⟩ ⟨by omega, by omega⟩ hst) (va_cwS 2 hts gC_X11_16 rfl rfl rfl (by decide +kernel) ⟨Nat.le_of_ble_eq_true rfl, Nat.le_of_ble_eq_true rfl⟩) hK hW rfl hl.1 rfl (Nat.le_of_ble_eq_true rfl) dX11_list_3 ⟨by dsimp only; omega, by dsimp only; omega⟩ (fun E_ ce_ q9_ H1 locs1 hE hW1 h1_ h2_ h3_ => g_outX ht hlk hW1 (fun _ _ h => h) (by obtain ⟨rfl, hE⟩ := hE; exact ⟨(show (pList S nm is).1 = 1 from sGo_1 (a := sIn nm 0 19) (b := true) (d := true) (by have hE2 := hE; (try simp only [sIn, Bool.and_eq_true, Bool.or_eq_true, Bool.and_eq_false_iff, Bool.or_eq_false_iff, decide_eq_true_eq, decide_eq_false_iff_not, Bool.not_eq_true, Bool.not_eq_false, Bool.not_eq_true', Bool.not_eq_false', Bool.not_true, Bool.not_false, Bool.true_and, Bool.and_true, Bool.false_and, Bool.and_false, Bool.true_or, Bool.or_true, Bool.false_or, Bool.or_false] at hE2); simp only [sIn, Bool.and_eq_true, Bool.or_eq_true, Bool.and_eq_false_iff, Bool.or_eq_false_iff, decide_eq_true_eq, decide_eq_false_iff_not, Bool.not_eq_true, Bool.not_eq_false, Bool.not_eq_true', Bool.not_eq_false', Bool.not_true, Bool.not_false, Bool.true_and, Bool.and_true, Bool.false_and, Bool.and_false, Bool.true_or, Bool.or_true, Bool.false_or, Bool.or_false]; omega)), rfl⟩) h1_ h2_ h3_ (by first | omega | (dsimp only; omega)) (by first | omega | (dsimp only; omega))) (fun v_ f_ H locs hp hW => ?_)
  obtain ⟨hq_1, hpv, hpe⟩ := hp
  rw [hpe] at hW
  subst hpv
  (try simp only [Bool.and_eq_true, Bool.or_eq_true, Bool.and_eq_false_iff, Bool.or_eq_false_iff, decide_eq_true_eq, decide_eq_false_iff_not, Bool.not_eq_true, Bool.not_eq_false, Bool.not_eq_true', Bool.not_eq_false', Bool.not_true, Bool.not_false, Bool.true_and, Bool.and_true, Bool.false_and, Bool.and_false, Bool.true_or, Bool.or_true, Bool.false_or, Bool.or_false] at hq_1)
  refine lv_aload_n hx hb dX11_list_6 rfl (lv_at hl 0 rfl) ?_
  refine g_get (ref := RX11) (T := TX11) (N := 1) (ci := 12) hx hb hts wsC_X11 hown hK hW (100000 + 0) (kW_at rfl) rfl 0 (by decide) (hts _ lC_X11_10) (fun x h => h) (v := .ref (ad 1)) rfl dX11_list_7 ?_
  refine g_get (ref := RX6) (T := TX6) (N := 8) (ci := 7) hx hb hts wsC_X6 hown hK hW (100000 + 1) (kW_at rfl) rfl 5 (by decide) (hts _ lC_X11_85) (fun x h => h) (v := .ref (ad 31)) rfl dX11_list_10 ?_
  refine lv_iload_n hx hb dX11_list_13 rfl (lv_at hl 1 rfl) ?_
  refine lv_iload_n hx hb dX11_list_14 rfl (lv_at hl 2 rfl) ?_
  refine g_callV (i := 100000 + 31) (As := [.int (iI (nm)), .int (iI (bI (is)))]) (rest := []) K (c_X9_mark (i := 100000 + 31) (j := 100000 + (40 + 11)) (nm) (is) (kW_at rfl) (kW_at (kC_row (r := 11) (by decide))) (by decide) (by decide) (show 0 ≤ (nm) ∧ (nm) < ((20 : Nat) : Int) from ⟨by omega, by omega⟩)) (cwV 2 hts gC_X11_67 rfl rfl rfl (by decide +kernel) ⟨Nat.le_of_ble_eq_true rfl, Nat.le_of_ble_eq_true rfl⟩) hK hW (kW_at rfl) rfl rfl hl.1 rfl (Nat.le_of_ble_eq_true rfl) dX11_list_15 ⟨by dsimp only; omega, by dsimp only; omega⟩ (fun v_ f_ H locs hp hW => ?_)
  obtain ⟨hpv, hpe⟩ := hp
  rw [hpe.trans (show _ = kW cy ad bk (pI S 7 (nm) (bI (is))) (I, cX, qX) G from by rw [mark_v]; exact kW_rI (cy := cy) (ad := ad) (bk := bk) (S := S) (X := (I, cX, qX)) (G := G) 11 (by decide) (z := nm) (v := bI (is)) (by decide))] at hW
  subst hpv
  refine lv_iload_n hx hb dX11_list_18 rfl (lv_at hl 2 rfl) ?_
  refine xi_ifb_eq (tgt := 33) hx hb dX11_list_19 (by decide) (fun c_2 => ?_) (fun c_2 => ?_)
  · have his : is = false := c_2
    refine xi_iconst hx hb dX11_list_33 ?_
    refine lv_istore_n (lv' := [(3, .int (iI (0))), (0, .ref (ad 0)), (1, .int (iI (nm))), (2, .int (iI (bI (is))))]) hx hb dX11_list_34 rfl hl (by decide) rfl (fun ls hl => ?_)
    refine lv_aload_n hx hb dX11_list_35 rfl (lv_at hl 1 rfl) ?_
    refine g_get (ref := RX11) (T := TX11) (N := 1) (ci := 12) hx hb hts wsC_X11 hown hK hW (100000 + 0) (kW_at rfl) rfl 0 (by decide) (hts _ lC_X11_10) (fun x h => h) (v := .ref (ad 1)) rfl dX11_list_36 ?_
    obtain ⟨T, hT⟩ : ∃ x : ST, x = (pI S 7 (nm) (bI (is))) := ⟨_, rfl⟩
    rw [← hT] at hW
    have hRo : okS T := by rw [hT]; exact okS_pI ho _ _ (by decide) (by have := bI_01 is; simp only [rLo, rHi]; omega)
    have hT8 : T.1 8 = S.1 8 := by rw [hT]; exact pI_f _ _ _ (by decide)
    have hT21 : T.1 21 = S.1 21 := by rw [hT]; exact pI_f _ _ _ (by decide)
    have hTe : T.1 31 0 + cNF T ≤ S.1 31 0 + cNF S + 1 := by rw [hT, pI_f _ _ _ (by decide), cNF_pI (by decide)]; omega
    have hTn : nE T = nE S := nE_f (by rw [hT]; exact pI_f _ _ _ (by decide))
    have hTc1 : kTc (nE T) = kTc (nE S) := by rw [hTn]
    have hTc2 : kTs (nE T) = kTs (nE S) := by rw [hTn]
    have hRb : nE T = 0 → bk 10 = D.1 21 := fun h => hE0 (by rw [← hTn]; exact h)
    have hRl : legW T := legW_of (congrFun hT8 0) hT21 hlw
    have hRe : T.1 31 0 + cNF T < 20000 := by omega
    have hRr := (sRuns_ok hRo).1
    have hRn := rdP_n hRo.1 (rdP_runs hRo)
    have hNP : nP (sRuns T).2 = nP S := (nP_runs hRo).trans (by unfold nP; rw [hT8])
    have t1 := kTc_le (show nE T ≤ nE (sRuns T).2 by omega)
    have t2 := kTs_le (show nE T ≤ nE (sRuns T).2 by omega)
    have hcA : (sIn nm 0 19) = true := (by (try simp only [sIn, Bool.and_eq_true, Bool.or_eq_true, Bool.and_eq_false_iff, Bool.or_eq_false_iff, decide_eq_true_eq, decide_eq_false_iff_not, Bool.not_eq_true, Bool.not_eq_false, Bool.not_eq_true', Bool.not_eq_false', Bool.not_true, Bool.not_false, Bool.true_and, Bool.and_true, Bool.false_and, Bool.and_false, Bool.true_or, Bool.or_true, Bool.false_or, Bool.or_false]); first | done | rfl | omega)
    have hcB : (true) = true := (by (try simp only [sIn, Bool.and_eq_true, Bool.or_eq_true, Bool.and_eq_false_iff, Bool.or_eq_false_iff, decide_eq_true_eq, decide_eq_false_iff_not, Bool.not_eq_true, Bool.not_eq_false, Bool.not_eq_true', Bool.not_eq_false', Bool.not_true, Bool.not_false, Bool.true_and, Bool.and_true, Bool.false_and, Bool.and_false, Bool.true_or, Bool.or_true, Bool.false_or, Bool.or_false]); first | done | rfl | omega)
    have hcC : (true) = true := (by (try simp only [sIn, Bool.and_eq_true, Bool.or_eq_true, Bool.and_eq_false_iff, Bool.or_eq_false_iff, decide_eq_true_eq, decide_eq_false_iff_not, Bool.not_eq_true, Bool.not_eq_false, Bool.not_eq_true', Bool.not_eq_false', Bool.not_true, Bool.not_false, Bool.true_and, Bool.and_true, Bool.false_and, Bool.and_false, Bool.true_or, Bool.or_true, Bool.false_or, Bool.or_false]); first | done | rfl | omega)
    have hsp : pList S nm is = (0, 0, (sRuns T).2) := by unfold pList; rw [sGo_00 hcA hcB hcC, if_pos (show ((sIn nm 0 19) && (true) && (true)) = true by rw [hcA, hcB, hcC]; rfl)]; rw [hT, his, sList_f]
    have hM1 : kTc (nE ((pList S nm is).2.2)) = kTc (nE (sRuns T).2) := by rw [hsp]
    have hM2 : kTs (nE ((pList S nm is).2.2)) = kTs (nE (sRuns T).2) := by rw [hsp]
    refine g_callV (i := 100000 + 1) (As := []) (rest := []) K (c_X6_runQueues (S := T) hRo.1 hRo hRl hRe hG0 hRb) (cwV 0 hts gC_X11_35 rfl rfl rfl (by decide +kernel) ⟨Nat.le_of_ble_eq_true rfl, Nat.le_of_ble_eq_true rfl⟩) hK hW (kW_at rfl) rfl rfl hl.1 rfl (Nat.le_of_ble_eq_true rfl) dX11_list_39 ⟨by dsimp only; omega, by dsimp only; omega⟩ (fun v_ f_ H locs hp hW => ?_)
    obtain ⟨bk9, I9, c9, q9, hpv, hb9, hpe⟩ := hp
    rw [hpe] at hW
    subst hpv
    refine lv_pop hx hb dX11_list_42 rfl ?_
    refine lv_iload_n hx hb dX11_list_43 rfl (lv_at hl 0 rfl) ?_
    exact W.widen (by first | omega | (dsimp only; omega)) (by first | omega | (dsimp only; omega)) (vx_ret (g_iret hx hb hr hW ⟨by rw [hsp], ad, bk9, I9, c9, q9, rfl, fun h => hP0 (by rw [hsp] at h; rw [← hNP]; exact h), fun h => hb9 (by rw [hsp] at h; exact h), by rw [hsp], by rw [hsp]⟩ dX11_list_44 hlk))
  · have his : is = true := c_2
    refine lv_aload_n hx hb dX11_list_22 rfl (lv_at hl 0 rfl) ?_
    refine g_get (ref := RX11) (T := TX11) (N := 1) (ci := 12) hx hb hts wsC_X11 hown hK hW (100000 + 0) (kW_at rfl) rfl 0 (by decide) (hts _ lC_X11_10) (fun x h => h) (v := .ref (ad 1)) rfl dX11_list_23 ?_
    refine lv_iload_n hx hb dX11_list_26 rfl (lv_at hl 1 rfl) ?_
    have hbi := bI_01 is
    have hT0o : okS (pI S 7 nm (bI is)) := okS_pI ho _ _ (by decide) (by have := bI_01 is; simp only [rLo, rHi]; omega)
    have hhold := hold_all hT0o nm (nP (pI S 7 nm (bI is))) (nP_le hT0o.1)
    refine g_callV (i := 100000 + 1) (As := [.int (iI (nm))]) (rest := []) K (c_X6_holdPaymentsFor (nm) (wf_pI (f := 7) hwf (nm) (bI (is)) (by simp only [rLo, rHi]; omega)) ⟨by omega, by omega⟩ hT0o) (cwV 1 hts gC_X11_88 rfl rfl rfl (by decide +kernel) ⟨Nat.le_of_ble_eq_true rfl, Nat.le_of_ble_eq_true rfl⟩) hK hW (kW_at rfl) rfl rfl hl.1 rfl (Nat.le_of_ble_eq_true rfl) dX11_list_27 ⟨by dsimp only; omega, by dsimp only; omega⟩ (fun v_ f_ H locs hp hW => ?_)
    obtain ⟨hpv, hpe⟩ := hp
    rw [hpe] at hW
    have hpv : v_ = some (.int (iI ((foS (lsB nm true) (0, (pI S 7 (nm) (bI (is)))) (nP (pI S 7 (nm) (bI (is))))).1))) := hpv
    subst hpv
    refine lv_goto (tgt := 34) hx hb dX11_list_30 (by decide) ?_
    refine lv_istore_n (lv' := [(3, .int (iI ((foS (lsB nm true) (0, (pI S 7 (nm) (bI (is)))) (nP (pI S 7 (nm) (bI (is))))).1))), (0, .ref (ad 0)), (1, .int (iI (nm))), (2, .int (iI (bI (is))))]) hx hb dX11_list_34 rfl hl (by decide) rfl (fun ls hl => ?_)
    refine lv_aload_n hx hb dX11_list_35 rfl (lv_at hl 1 rfl) ?_
    refine g_get (ref := RX11) (T := TX11) (N := 1) (ci := 12) hx hb hts wsC_X11 hown hK hW (100000 + 0) (kW_at rfl) rfl 0 (by decide) (hts _ lC_X11_10) (fun x h => h) (v := .ref (ad 1)) rfl dX11_list_36 ?_
    obtain ⟨T, hT⟩ : ∃ x : ST, x = (foS (lsB nm true) (0, (pI S 7 (nm) (bI (is)))) (nP (pI S 7 (nm) (bI (is))))).2 := ⟨_, rfl⟩
    rw [← hT] at hW
    have hRo : okS T := by rw [hT]; exact hhold.1
    have hT8 : T.1 8 = S.1 8 := by rw [hT]; exact (hhold.2.2.2.2 _ (by decide)).trans (pI_f _ _ _ (by decide))
    have hT21 : T.1 21 = S.1 21 := by rw [hT]; exact (hhold.2.2.2.2 _ (by decide)).trans (pI_f _ _ _ (by decide))
    have hTe : T.1 31 0 + cNF T ≤ S.1 31 0 + cNF S + 1 := by rw [hT, hhold.2.1, (hhold.2.2.2.2 31 (by decide)).trans (pI_f _ _ _ (by decide)), cNF_pI (by decide)]; omega
    have hTn : nE T = nE S := nE_f (by rw [hT]; exact (hhold.2.2.2.2 _ (by decide)).trans (pI_f _ _ _ (by decide)))
    have hTc1 : kTc (nE T) = kTc (nE S) := by rw [hTn]
    have hTc2 : kTs (nE T) = kTs (nE S) := by rw [hTn]
    have hRb : nE T = 0 → bk 10 = D.1 21 := fun h => hE0 (by rw [← hTn]; exact h)
    have hRl : legW T := legW_of (congrFun hT8 0) hT21 hlw
    have hRe : T.1 31 0 + cNF T < 20000 := by omega
    have hRr := (sRuns_ok hRo).1
    have hRn := rdP_n hRo.1 (rdP_runs hRo)
    have hNP : nP (sRuns T).2 = nP S := (nP_runs hRo).trans (by unfold nP; rw [hT8])
    have t1 := kTc_le (show nE T ≤ nE (sRuns T).2 by omega)
    have t2 := kTs_le (show nE T ≤ nE (sRuns T).2 by omega)
    have hcA : (sIn nm 0 19) = true := (by (try simp only [sIn, Bool.and_eq_true, Bool.or_eq_true, Bool.and_eq_false_iff, Bool.or_eq_false_iff, decide_eq_true_eq, decide_eq_false_iff_not, Bool.not_eq_true, Bool.not_eq_false, Bool.not_eq_true', Bool.not_eq_false', Bool.not_true, Bool.not_false, Bool.true_and, Bool.and_true, Bool.false_and, Bool.and_false, Bool.true_or, Bool.or_true, Bool.false_or, Bool.or_false]); first | done | rfl | omega)
    have hcB : (true) = true := (by (try simp only [sIn, Bool.and_eq_true, Bool.or_eq_true, Bool.and_eq_false_iff, Bool.or_eq_false_iff, decide_eq_true_eq, decide_eq_false_iff_not, Bool.not_eq_true, Bool.not_eq_false, Bool.not_eq_true', Bool.not_eq_false', Bool.not_true, Bool.not_false, Bool.true_and, Bool.and_true, Bool.false_and, Bool.and_false, Bool.true_or, Bool.or_true, Bool.false_or, Bool.or_false]); first | done | rfl | omega)
    have hcC : (true) = true := (by (try simp only [sIn, Bool.and_eq_true, Bool.or_eq_true, Bool.and_eq_false_iff, Bool.or_eq_false_iff, decide_eq_true_eq, decide_eq_false_iff_not, Bool.not_eq_true, Bool.not_eq_false, Bool.not_eq_true', Bool.not_eq_false', Bool.not_true, Bool.not_false, Bool.true_and, Bool.and_true, Bool.false_and, Bool.and_false, Bool.true_or, Bool.or_true, Bool.false_or, Bool.or_false]); first | done | rfl | omega)
    have hsp : pList S nm is = (0, (foS (lsB nm true) (0, pI S 7 nm (bI is)) (nP (pI S 7 nm (bI is)))).1, (sRuns T).2) := by unfold pList; rw [sGo_00 hcA hcB hcC, if_pos (show ((sIn nm 0 19) && (true) && (true)) = true by rw [hcA, hcB, hcC]; rfl)]; rw [hT, his]; rfl
    have hM1 : kTc (nE ((pList S nm is).2.2)) = kTc (nE (sRuns T).2) := by rw [hsp]
    have hM2 : kTs (nE ((pList S nm is).2.2)) = kTs (nE (sRuns T).2) := by rw [hsp]
    refine g_callV (i := 100000 + 1) (As := []) (rest := []) K (c_X6_runQueues (S := T) hRo.1 hRo hRl hRe hG0 hRb) (cwV 0 hts gC_X11_35 rfl rfl rfl (by decide +kernel) ⟨Nat.le_of_ble_eq_true rfl, Nat.le_of_ble_eq_true rfl⟩) hK hW (kW_at rfl) rfl rfl hl.1 rfl (Nat.le_of_ble_eq_true rfl) dX11_list_39 ⟨by dsimp only; omega, by dsimp only; omega⟩ (fun v_ f_ H locs hp hW => ?_)
    obtain ⟨bk9, I9, c9, q9, hpv, hb9, hpe⟩ := hp
    rw [hpe] at hW
    subst hpv
    refine lv_pop hx hb dX11_list_42 rfl ?_
    refine lv_iload_n hx hb dX11_list_43 rfl (lv_at hl 0 rfl) ?_
    exact W.widen (by first | omega | (dsimp only; omega)) (by first | omega | (dsimp only; omega)) (vx_ret (g_iret hx hb hr hW ⟨by rw [hsp], ad, bk9, I9, c9, q9, rfl, fun h => hP0 (by rw [hsp] at h; rw [← hNP]; exact h), fun h => hb9 (by rw [hsp] at h; exact h), by rw [hsp], by rw [hsp]⟩ dX11_list_44 hlk))
theorem rdP_most {S : ST} (ho : okS S) {s c : Int} (hs : s = 2 ∨ s = 3) (bq : Bool) : rdP S (sMost S s c bq) := by
  have h := sRedS_ok (I := mostI S s c) (c := c) (q := bq) ho (fun j _ _ hj => by
    simp only [mostI, mostC, Bool.and_eq_true, decide_eq_true_eq] at hj
    omega)
  exact ⟨h.1, sRedS_31 _ _ _ _⟩
theorem rdP_off {S : ST} (ho : okS S) {c : Int} (hc : 0 ≤ c ∧ c ≤ 2) : rdP S (sOff S c) := by
  rw [← sMost_off ho.1 hc]
  exact rdP_most ho (Or.inl rfl) true
set_option maxHeartbeats 4000000 in
set_option maxRecDepth 100000 in
theorem c_X11_offset {l : Launch} {D : va_G} {cy : Nat → ClassId} {B0 : Nat} {ad bk : Nat → Nat} {S : ST} {I : Int → Bool} {cX qX : Int → Int64} {G : gF} (c : Int) (hwf : wf S) (h_c : rI c) (ho : okS S) (hlw : legW S) (he : S.1 31 0 + cNF S < 19900) (hG0 : G 50001 = none) (hG2 : G 50002 = none) (hG3 : G 50003 = none) (hP0 : nP S = 0 → ad 11 = D.1 21) (hE0 : nE S = 0 → bk 10 = D.1 21)  (hst : l.stackTraces = false) : gX l yX11_offset vX11_offset 13 297 D cy B0 [.ref (ad 0), .int (iI (c))] (kW cy ad bk S (I, cX, qX) G) (fun r g_ => (pOff S c).1 = 0 ∧ ∃ (ad2 bk2 : Nat → Nat) (I2 : Int → Bool) (c2 q2 : Int → Int64), ad2 0 = ad 0 ∧ (nP (pOff S c).2.2 = 0 → ad2 11 = D.1 21) ∧ (nE (pOff S c).2.2 = 0 → bk2 10 = D.1 21) ∧ r = some (.int (iI (pOff S c).2.1)) ∧ g_ = kW cy ad2 bk2 (pOff S c).2.2 (I2, c2, q2) G) (fun E_ => ((pOff S c).1 = 1 ∧ E_ = xIO)) (kTc (nE (pOff S c).2.2) - kTc (nE S) + 16) (kTs (nE (pOff S c).2.2) - kTs (nE S) + 400) := by
  refine g_startX (cc := cX11_offset) (maxL := 3) (ret := (some .int)) (by decide) rfl (Nat.le_of_ble_eq_true rfl) ?_
  intro p_ e_ s_ m_ be_ me_ co_ ls H locs K hr hlk hnm ht hK hW hl
  obtain ⟨hx, hb, hml, hown, hts⟩ := id K
  have hl : lv_has ls 3 [(0, .ref (ad 0)), (1, .int (iI (c)))] := hl
  have h80 := wf_8 hwf 0
  have h310 := wf_31 hwf 0
  refine lv_iload_n hx hb dX11_offset_0 rfl (lv_at hl 1 rfl) ?_
  refine xi_iconst hx hb dX11_offset_1 ?_
  refine g_xcallS (As := [.int (iI (c)), .int (iI (3))]) (rest := []) K (c_X11_needPlace (c) (3) ⟨by omega, by omega⟩ ⟨by omega, by omega⟩ hst) (va_cwS 2 hts gC_X11_16 rfl rfl rfl (by decide +kernel) ⟨Nat.le_of_ble_eq_true rfl, Nat.le_of_ble_eq_true rfl⟩) hK hW rfl hl.1 rfl (Nat.le_of_ble_eq_true rfl) dX11_offset_2 ⟨by dsimp only; omega, by dsimp only; omega⟩ (fun E_ ce_ q9_ H1 locs1 hE hW1 h1_ h2_ h3_ => g_outX ht hlk hW1 (fun _ _ h => h) (by obtain ⟨rfl, hE⟩ := hE; exact ⟨(show (pOff S c).1 = 1 from sGo_1 (a := sIn c 0 2) (b := true) (d := true) (by have hE2 := hE; (try simp only [sIn, Bool.and_eq_true, Bool.or_eq_true, Bool.and_eq_false_iff, Bool.or_eq_false_iff, decide_eq_true_eq, decide_eq_false_iff_not, Bool.not_eq_true, Bool.not_eq_false, Bool.not_eq_true', Bool.not_eq_false', Bool.not_true, Bool.not_false, Bool.true_and, Bool.and_true, Bool.false_and, Bool.and_false, Bool.true_or, Bool.or_true, Bool.false_or, Bool.or_false] at hE2); simp only [sIn, Bool.and_eq_true, Bool.or_eq_true, Bool.and_eq_false_iff, Bool.or_eq_false_iff, decide_eq_true_eq, decide_eq_false_iff_not, Bool.not_eq_true, Bool.not_eq_false, Bool.not_eq_true', Bool.not_eq_false', Bool.not_true, Bool.not_false, Bool.true_and, Bool.and_true, Bool.false_and, Bool.and_false, Bool.true_or, Bool.or_true, Bool.false_or, Bool.or_false]; omega)), rfl⟩) h1_ h2_ h3_ (by first | omega | (dsimp only; omega)) (by first | omega | (dsimp only; omega))) (fun v_ f_ H locs hp hW => ?_)
  obtain ⟨hq_1, hpv, hpe⟩ := hp
  rw [hpe] at hW
  subst hpv
  (try simp only [Bool.and_eq_true, Bool.or_eq_true, Bool.and_eq_false_iff, Bool.or_eq_false_iff, decide_eq_true_eq, decide_eq_false_iff_not, Bool.not_eq_true, Bool.not_eq_false, Bool.not_eq_true', Bool.not_eq_false', Bool.not_true, Bool.not_false, Bool.true_and, Bool.and_true, Bool.false_and, Bool.and_false, Bool.true_or, Bool.or_true, Bool.false_or, Bool.or_false] at hq_1)
  refine lv_aload_n hx hb dX11_offset_5 rfl (lv_at hl 0 rfl) ?_
  refine g_get (ref := RX11) (T := TX11) (N := 1) (ci := 12) hx hb hts wsC_X11 hown hK hW (100000 + 0) (kW_at rfl) rfl 0 (by decide) (hts _ lC_X11_10) (fun x h => h) (v := .ref (ad 1)) rfl dX11_offset_6 ?_
  refine lv_iload_n hx hb dX11_offset_9 rfl (lv_at hl 1 rfl) ?_
  refine xi_iconst hx hb dX11_offset_10 ?_
  have hcA : (sIn c 0 2) = true := (by (try simp only [sIn, Bool.and_eq_true, Bool.or_eq_true, Bool.and_eq_false_iff, Bool.or_eq_false_iff, decide_eq_true_eq, decide_eq_false_iff_not, Bool.not_eq_true, Bool.not_eq_false, Bool.not_eq_true', Bool.not_eq_false', Bool.not_true, Bool.not_false, Bool.true_and, Bool.and_true, Bool.false_and, Bool.and_false, Bool.true_or, Bool.or_true, Bool.false_or, Bool.or_false]); first | done | rfl | omega)
  have hcB : (true) = true := (by (try simp only [sIn, Bool.and_eq_true, Bool.or_eq_true, Bool.and_eq_false_iff, Bool.or_eq_false_iff, decide_eq_true_eq, decide_eq_false_iff_not, Bool.not_eq_true, Bool.not_eq_false, Bool.not_eq_true', Bool.not_eq_false', Bool.not_true, Bool.not_false, Bool.true_and, Bool.and_true, Bool.false_and, Bool.and_false, Bool.true_or, Bool.or_true, Bool.false_or, Bool.or_false]); first | done | rfl | omega)
  have hcC : (true) = true := (by (try simp only [sIn, Bool.and_eq_true, Bool.or_eq_true, Bool.and_eq_false_iff, Bool.or_eq_false_iff, decide_eq_true_eq, decide_eq_false_iff_not, Bool.not_eq_true, Bool.not_eq_false, Bool.not_eq_true', Bool.not_eq_false', Bool.not_true, Bool.not_false, Bool.true_and, Bool.and_true, Bool.false_and, Bool.and_false, Bool.true_or, Bool.or_true, Bool.false_or, Bool.or_false]); first | done | rfl | omega)
  have hsp : pOff S c = (0, (sOff S c).1, (sRuns (sOff S c).2).2) := by unfold pOff; rw [sGo_00 hcA hcB hcC, if_pos (show ((sIn c 0 2) && (true) && (true)) = true by rw [hcA, hcB, hcC]; rfl)]
  have hfp := rdP_off ho (c := c) ⟨by omega, by omega⟩
  have hfn := (rdP_n hwf hfp).1
  have hfr := (rdP_n hfp.1.1.1 (rdP_runs hfp.1.1)).1
  have hmE : nE (sOff S c).2 ≤ nE (pOff S c).2.2 := by rw [hsp]; show _ ≤ nE (sRuns _).2; omega
  have g1 := kTc_le hmE
  have g2 := kTs_le hmE
  have g3 := kTc_le (show nE S ≤ nE (sOff S c).2 by omega)
  have g4 := kTs_le (show nE S ≤ nE (sOff S c).2 by omega)
  have hmA : 0 + 1 + (kTc (nE (sOff S c).2) - kTc (nE S)) ≤ kTc (nE (pOff S c).2.2) - kTc (nE S) + 16 := by omega
  have hmB : 0 + 6 + (kTs (nE (sOff S c).2) - kTs (nE S)) ≤ kTs (nE (pOff S c).2.2) - kTs (nE S) + 400 := by omega
  have hfb := rdP_bd ho hfp
  clear hsp hcA hcB hcC
  refine g_callV (i := 100000 + 1) (As := [.int (iI (c)), .int (iI (2))]) (rest := []) K (c_X6_settleMost_2 (S := S) (c) hwf ⟨by omega, by omega⟩ ho (by omega) hG0 hE0) (cwV 2 hts gC_X11_175 rfl rfl rfl (by decide +kernel) ⟨Nat.le_of_ble_eq_true rfl, Nat.le_of_ble_eq_true rfl⟩) hK hW (kW_at rfl) rfl rfl hl.1 rfl (Nat.le_of_ble_eq_true rfl) dX11_offset_11 ⟨hmA, hmB⟩ (fun v_ f_ H locs hp hW => ?_)
  obtain ⟨bk4, I4, c4, q4, hpv, hb4, hpe⟩ := hp
  rw [hpe] at hW
  subst hpv
  refine lv_istore_n (lv' := [(2, .int (iI ((sOff S c).1))), (0, .ref (ad 0)), (1, .int (iI (c)))]) hx hb dX11_offset_14 rfl hl (by decide) rfl (fun ls hl => ?_)
  refine lv_aload_n hx hb dX11_offset_15 rfl (lv_at hl 1 rfl) ?_
  refine g_get (ref := RX11) (T := TX11) (N := 1) (ci := 12) hx hb hts wsC_X11 hown hK hW (100000 + 0) (kW_at rfl) rfl 0 (by decide) (hts _ lC_X11_10) (fun x h => h) (v := .ref (ad 1)) rfl dX11_offset_16 ?_
  obtain ⟨T, hT⟩ : ∃ x : ST, x = (sOff S c).2 := ⟨_, rfl⟩
  rw [← hT] at hW
  have hRo : okS T := by rw [hT]; exact hfp.1.1
  have hT8 : T.1 8 = S.1 8 := by rw [hT]; exact hfp.1.2.2.2 _ (by unfold cht; decide)
  have hT21 : T.1 21 = S.1 21 := by rw [hT]; exact hfp.1.2.2.2 _ (by unfold cht; decide)
  have hTe : T.1 31 0 + cNF T ≤ S.1 31 0 + cNF S + 1 := by rw [hT]; have := hfb.2.2.1; omega
  have hTq1 : kTc (nE T) = kTc (nE (sOff S c).2) := by rw [hT]
  have hTq2 : kTs (nE T) = kTs (nE (sOff S c).2) := by rw [hT]
  have hRb : nE T = 0 → bk4 10 = D.1 21 := fun h => hb4 (by rw [← hT]; exact h)
  have hRl : legW T := legW_of (congrFun hT8 0) hT21 hlw
  have hRe : T.1 31 0 + cNF T < 20000 := by omega
  have hRr := (sRuns_ok hRo).1
  have hRn := rdP_n hRo.1 (rdP_runs hRo)
  have hNP : nP (sRuns T).2 = nP S := (nP_runs hRo).trans (by unfold nP; rw [hT8])
  have t1 := kTc_le (show nE T ≤ nE (sRuns T).2 by omega)
  have t2 := kTs_le (show nE T ≤ nE (sRuns T).2 by omega)
  have hcA : (sIn c 0 2) = true := (by (try simp only [sIn, Bool.and_eq_true, Bool.or_eq_true, Bool.and_eq_false_iff, Bool.or_eq_false_iff, decide_eq_true_eq, decide_eq_false_iff_not, Bool.not_eq_true, Bool.not_eq_false, Bool.not_eq_true', Bool.not_eq_false', Bool.not_true, Bool.not_false, Bool.true_and, Bool.and_true, Bool.false_and, Bool.and_false, Bool.true_or, Bool.or_true, Bool.false_or, Bool.or_false]); first | done | rfl | omega)
  have hcB : (true) = true := (by (try simp only [sIn, Bool.and_eq_true, Bool.or_eq_true, Bool.and_eq_false_iff, Bool.or_eq_false_iff, decide_eq_true_eq, decide_eq_false_iff_not, Bool.not_eq_true, Bool.not_eq_false, Bool.not_eq_true', Bool.not_eq_false', Bool.not_true, Bool.not_false, Bool.true_and, Bool.and_true, Bool.false_and, Bool.and_false, Bool.true_or, Bool.or_true, Bool.false_or, Bool.or_false]); first | done | rfl | omega)
  have hcC : (true) = true := (by (try simp only [sIn, Bool.and_eq_true, Bool.or_eq_true, Bool.and_eq_false_iff, Bool.or_eq_false_iff, decide_eq_true_eq, decide_eq_false_iff_not, Bool.not_eq_true, Bool.not_eq_false, Bool.not_eq_true', Bool.not_eq_false', Bool.not_true, Bool.not_false, Bool.true_and, Bool.and_true, Bool.false_and, Bool.and_false, Bool.true_or, Bool.or_true, Bool.false_or, Bool.or_false]); first | done | rfl | omega)
  have hsp : pOff S c = (0, (sOff S c).1, (sRuns T).2) := by unfold pOff; rw [sGo_00 hcA hcB hcC, if_pos (show ((sIn c 0 2) && (true) && (true)) = true by rw [hcA, hcB, hcC]; rfl)]; rw [hT]
  have hM1 : kTc (nE ((pOff S c).2.2)) = kTc (nE (sRuns T).2) := by rw [hsp]
  have hM2 : kTs (nE ((pOff S c).2.2)) = kTs (nE (sRuns T).2) := by rw [hsp]
  refine g_callV (i := 100000 + 1) (As := []) (rest := []) K (c_X6_runQueues (S := T) hRo.1 hRo hRl hRe hG0 hRb) (cwV 0 hts gC_X11_35 rfl rfl rfl (by decide +kernel) ⟨Nat.le_of_ble_eq_true rfl, Nat.le_of_ble_eq_true rfl⟩) hK hW (kW_at rfl) rfl rfl hl.1 rfl (Nat.le_of_ble_eq_true rfl) dX11_offset_19 ⟨by dsimp only; omega, by dsimp only; omega⟩ (fun v_ f_ H locs hp hW => ?_)
  obtain ⟨bk9, I9, c9, q9, hpv, hb9, hpe⟩ := hp
  rw [hpe] at hW
  subst hpv
  refine lv_pop hx hb dX11_offset_22 rfl ?_
  refine lv_iload_n hx hb dX11_offset_23 rfl (lv_at hl 0 rfl) ?_
  exact W.widen (by first | omega | (dsimp only; omega)) (by first | omega | (dsimp only; omega)) (vx_ret (g_iret hx hb hr hW ⟨by rw [hsp], ad, bk9, I9, c9, q9, rfl, fun h => hP0 (by rw [hsp] at h; rw [← hNP]; exact h), fun h => hb9 (by rw [hsp] at h; exact h), by rw [hsp], by rw [hsp]⟩ dX11_offset_24 hlk))
