/-- what the class holds of officers and of recalls -/
def relI (S : ST) : Prop := ∀ k : Int, 0 ≤ k → k < S.1 8 0 → S.1 18 k = 1 → S.1 40 k = S.1 20 k ∧ S.1 19 k = 0
def recI (S : ST) : Prop := ∀ k : Int, 0 ≤ k → k < S.1 8 0 → (S.1 23 k = -1 ∧ S.1 42 k = -1) ∨ (0 ≤ S.1 23 k ∧ S.1 42 k = S.1 23 k + 2)
theorem gb_leg {S : ST} {k : Int} (hl : legW S) (h4 : lg4 S) (h0 : 0 ≤ k) (h1 : k < S.1 8 0) (hs : S.1 18 k ≠ 4) : S.1 21 k ≠ -1 → 0 ≤ S.1 21 k ∧ S.1 21 k < S.1 8 0 ∧ S.1 18 (S.1 21 k) ≠ 4 := by
  intro hn
  rcases hl k h0 h1 with h | ⟨a, b, _⟩
  · exact absurd h hn
  · rcases h4 k h0 h1 with h | ⟨c, _⟩
    · exact absurd h hn
    · exact ⟨a, b, fun e => hs (c.mpr e)⟩
theorem legW_join {S : ST} {k u : Int} (hl : legW S) (k0 : 0 ≤ k) (k1 : k < S.1 8 0) (u0 : 0 ≤ u) (u1 : u < S.1 8 0) (h : k ≠ u) : legW (pI (pI S 21 k u) 21 u k) := by
  intro j j0 j1
  rw [pI_f _ _ _ (show (8 : Nat) ≠ 21 by decide), pI_f _ _ _ (show (8 : Nat) ≠ 21 by decide)] at *
  by_cases e1 : j = u
  · rw [e1, pI_s]
    exact Or.inr ⟨k0, k1, h⟩
  · rw [pI_n _ _ _ _ (Or.inr e1)]
    by_cases e2 : j = k
    · rw [e2, pI_s]
      exact Or.inr ⟨u0, u1, fun e => h e.symm⟩
    · rw [pI_n _ _ _ _ (Or.inr e2)]
      exact hl j j0 j1
theorem sJoin_ne {S : ST} {k u : Int} (h : sJoin S k u = true) : k ≠ u := by
  simp only [sJoin, sJ1, Bool.and_eq_true, Bool.not_eq_true', decide_eq_false_iff_not] at h
  exact h.1.1.1.1.1.1.1.1.1
theorem rel_eq (S : ST) (k y : Int) : sEnter (pI (pI S 40 k y) 19 k 1) k = pI (sEnter (pI S 19 k 1) k) 40 k y := by
  have e : sEntV (pI (pI S 40 k y) 19 k 1) k = sEntV (pI S 19 k 1) k := by simp [sEntV, pI]
  unfold sEnter
  rw [e]
  refine Prod.ext ?_ rfl
  funext f j
  simp only [pI]
  by_cases h18 : f = 18
  · subst h18; simp
  · by_cases h19 : f = 19
    · subst h19; simp
    · simp [h18, h19]
theorem rec_eqv (S : ST) (k x y : Int) : kEq (pI S 42 k y) (pI (pI S 23 k x) 42 k y) := by
  refine ⟨rfl, fun f _ _ h23 _ _ => ?_⟩
  funext j
  simp only [pI]
  simp [h23]
theorem rel_eqv (S : ST) (k y : Int) : kEq (pI S 40 k y) (pI (pI S 20 k y) 40 k y) := by
  refine ⟨rfl, fun f h20 _ _ _ _ => ?_⟩
  funext j
  simp only [pI]
  simp [h20]
set_option maxHeartbeats 4000000 in
set_option maxRecDepth 100000 in
theorem c_X11_join {l : Launch} {D : va_G} {cy : Nat → ClassId} {B0 : Nat} {ad bk : Nat → Nat} {S : ST} {I : Int → Bool} {cX qX : Int → Int64} {G : gF} (k : Int) (u : Int) (hwf : wf S) (h_k : rI k) (h_u : rI u) (ho : okS S) (hlw : legW S) (he : S.1 31 0 + cNF S < 19900) (hG0 : G 50001 = none) (hG2 : G 50002 = none) (hG3 : G 50003 = none) (hP0 : nP S = 0 → ad 11 = D.1 21) (hE0 : nE S = 0 → bk 10 = D.1 21) (hlg : lg4 S) (hst : l.stackTraces = false) : gX l yX11_join vX11_join 13 297 D cy B0 [.ref (ad 0), .int (iI (k)), .int (iI (u))] (kW cy ad bk S (I, cX, qX) G) (fun r g_ => (pJoin S k u).1 = 0 ∧ ∃ (ad2 bk2 : Nat → Nat) (I2 : Int → Bool) (c2 q2 : Int → Int64), ad2 0 = ad 0 ∧ (nP (pJoin S k u).2 = 0 → ad2 11 = D.1 21) ∧ (nE (pJoin S k u).2 = 0 → bk2 10 = D.1 21) ∧ r = none ∧ g_ = kW cy ad2 bk2 (pJoin S k u).2 (I2, c2, q2) G) (fun E_ => ((pJoin S k u).1 = 1 ∧ E_ = xIO) ∨ ((pJoin S k u).1 = 2 ∧ E_ = xIS)) (kTc (nE (pJoin S k u).2) - kTc (nE S) + 16) (kTs (nE (pJoin S k u).2) - kTs (nE S) + 400) := by
  refine g_startX (cc := cX11_join) (maxL := 5) (ret := none) (by decide) rfl (Nat.le_of_ble_eq_true rfl) ?_
  intro p_ e_ s_ m_ be_ me_ co_ ls H locs K hr hlk hnm ht hK hW hl
  obtain ⟨hx, hb, hml, hown, hts⟩ := id K
  have hl : lv_has ls 5 [(0, .ref (ad 0)), (1, .int (iI (k))), (2, .int (iI (u)))] := hl
  have h80 := wf_8 hwf 0
  have h310 := wf_31 hwf 0
  refine lv_aload_n hx hb dX11_join_0 rfl (lv_at hl 0 rfl) ?_
  refine lv_iload_n hx hb dX11_join_1 rfl (lv_at hl 1 rfl) ?_
  refine g_xcallV (i := 100000 + 0) (As := [.int (iI (k))]) (rest := []) K (c_X11_needPayment (S := S) (k) hwf ⟨by omega, by omega⟩ hst) (cwV 1 hts gC_X11_143 rfl rfl rfl (by decide +kernel) ⟨Nat.le_of_ble_eq_true rfl, Nat.le_of_ble_eq_true rfl⟩) hK hW (kW_at rfl) rfl rfl hl.1 rfl (Nat.le_of_ble_eq_true rfl) dX11_join_2 ⟨by dsimp only; omega, by dsimp only; omega⟩ (fun E_ ce_ q9_ H1 locs1 hE hW1 h1_ h2_ h3_ => g_outX ht hlk hW1 (fun _ _ h => h) (by obtain ⟨rfl, hE⟩ := hE; exact (Or.inl ⟨(show (pJoin S k u).1 = 1 from sGo_1 (a := okPP S k u) (b := okJ S k u) (d := true) (by have hE2 := hE; (try simp only [okPP, okP, sIn, Bool.and_eq_true, Bool.or_eq_true, Bool.and_eq_false_iff, Bool.or_eq_false_iff, decide_eq_true_eq, decide_eq_false_iff_not, Bool.not_eq_true, Bool.not_eq_false, Bool.not_eq_true', Bool.not_eq_false', Bool.not_true, Bool.not_false, Bool.true_and, Bool.and_true, Bool.false_and, Bool.and_false, Bool.true_or, Bool.or_true, Bool.false_or, Bool.or_false] at hE2); simp only [okPP, okP, sIn, Bool.and_eq_true, Bool.or_eq_true, Bool.and_eq_false_iff, Bool.or_eq_false_iff, decide_eq_true_eq, decide_eq_false_iff_not, Bool.not_eq_true, Bool.not_eq_false, Bool.not_eq_true', Bool.not_eq_false', Bool.not_true, Bool.not_false, Bool.true_and, Bool.and_true, Bool.false_and, Bool.and_false, Bool.true_or, Bool.or_true, Bool.false_or, Bool.or_false]; omega)), rfl⟩)) h1_ h2_ h3_ (by first | omega | (dsimp only; omega)) (by first | omega | (dsimp only; omega))) (fun v_ f_ H locs hp hW => ?_)
  obtain ⟨hq_1, hpv, hpe⟩ := hp
  rw [hpe] at hW
  have hpv : v_ = some (.ref (ad (1000 + 2 * (k).toNat))) := hpv
  subst hpv
  (try simp only [okPP, okP, sIn, Bool.and_eq_true, Bool.or_eq_true, Bool.and_eq_false_iff, Bool.or_eq_false_iff, decide_eq_true_eq, decide_eq_false_iff_not, Bool.not_eq_true, Bool.not_eq_false, Bool.not_eq_true', Bool.not_eq_false', Bool.not_true, Bool.not_false, Bool.true_and, Bool.and_true, Bool.false_and, Bool.and_false, Bool.true_or, Bool.or_true, Bool.false_or, Bool.or_false] at hq_1)
  refine lv_astore_n (lv' := [(3, .ref (ad (1000 + 2 * (k).toNat))), (0, .ref (ad 0)), (1, .int (iI (k))), (2, .int (iI (u)))]) hx hb dX11_join_5 rfl hl (by decide) rfl (fun ls hl => ?_)
  refine lv_aload_n hx hb dX11_join_6 rfl (lv_at hl 1 rfl) ?_
  refine lv_iload_n hx hb dX11_join_7 rfl (lv_at hl 3 rfl) ?_
  refine g_xcallV (i := 100000 + 0) (As := [.int (iI (u))]) (rest := []) K (c_X11_needPayment (S := S) (u) hwf ⟨by omega, by omega⟩ hst) (cwV 1 hts gC_X11_143 rfl rfl rfl (by decide +kernel) ⟨Nat.le_of_ble_eq_true rfl, Nat.le_of_ble_eq_true rfl⟩) hK hW (kW_at rfl) rfl rfl hl.1 rfl (Nat.le_of_ble_eq_true rfl) dX11_join_8 ⟨by dsimp only; omega, by dsimp only; omega⟩ (fun E_ ce_ q9_ H1 locs1 hE hW1 h1_ h2_ h3_ => g_outX ht hlk hW1 (fun _ _ h => h) (by obtain ⟨rfl, hE⟩ := hE; exact (Or.inl ⟨(show (pJoin S k u).1 = 1 from sGo_1 (a := okPP S k u) (b := okJ S k u) (d := true) (by have hE2 := hE; (try simp only [okPP, okP, sIn, Bool.and_eq_true, Bool.or_eq_true, Bool.and_eq_false_iff, Bool.or_eq_false_iff, decide_eq_true_eq, decide_eq_false_iff_not, Bool.not_eq_true, Bool.not_eq_false, Bool.not_eq_true', Bool.not_eq_false', Bool.not_true, Bool.not_false, Bool.true_and, Bool.and_true, Bool.false_and, Bool.and_false, Bool.true_or, Bool.or_true, Bool.false_or, Bool.or_false] at hE2); simp only [okPP, okP, sIn, Bool.and_eq_true, Bool.or_eq_true, Bool.and_eq_false_iff, Bool.or_eq_false_iff, decide_eq_true_eq, decide_eq_false_iff_not, Bool.not_eq_true, Bool.not_eq_false, Bool.not_eq_true', Bool.not_eq_false', Bool.not_true, Bool.not_false, Bool.true_and, Bool.and_true, Bool.false_and, Bool.and_false, Bool.true_or, Bool.or_true, Bool.false_or, Bool.or_false]; omega)), rfl⟩)) h1_ h2_ h3_ (by first | omega | (dsimp only; omega)) (by first | omega | (dsimp only; omega))) (fun v_ f_ H locs hp hW => ?_)
  obtain ⟨hq_2, hpv, hpe⟩ := hp
  rw [hpe] at hW
  have hpv : v_ = some (.ref (ad (1000 + 2 * (u).toNat))) := hpv
  subst hpv
  (try simp only [okPP, okP, sIn, Bool.and_eq_true, Bool.or_eq_true, Bool.and_eq_false_iff, Bool.or_eq_false_iff, decide_eq_true_eq, decide_eq_false_iff_not, Bool.not_eq_true, Bool.not_eq_false, Bool.not_eq_true', Bool.not_eq_false', Bool.not_true, Bool.not_false, Bool.true_and, Bool.and_true, Bool.false_and, Bool.and_false, Bool.true_or, Bool.or_true, Bool.false_or, Bool.or_false] at hq_2)
  refine lv_astore (lv' := [(4, .ref (ad (1000 + 2 * (u).toNat))), (3, .ref (ad (1000 + 2 * (k).toNat))), (0, .ref (ad 0)), (1, .int (iI (k))), (2, .int (iI (u)))]) hx hb dX11_join_11 hl (by decide) rfl (fun ls hl => ?_)
  refine lv_aload_n hx hb dX11_join_13 rfl (lv_at hl 1 rfl) ?_
  refine lv_aload hx hb dX11_join_14 (lv_at hl 0 rfl) ?_
  refine g_callV (i := 100000 + (1000 + 2 * (k).toNat)) (As := [.ref (ad (1000 + 2 * (u).toNat))]) (rest := []) K (c_X7_canBeLegWith (k) (u) hwf (by omega) (by omega) (by omega) (by omega)) (cwV 1 hts gC_X11_147 rfl rfl rfl (by decide +kernel) ⟨Nat.le_of_ble_eq_true rfl, Nat.le_of_ble_eq_true rfl⟩) hK hW (kW_at (kC_pay hwf (by omega) (show (k) < S.1 8 0 from by omega))) rfl rfl hl.1 rfl (Nat.le_of_ble_eq_true rfl) dX11_join_16 ⟨by dsimp only; omega, by dsimp only; omega⟩ (fun v_ f_ H locs hp hW => ?_)
  obtain ⟨hpv, hpe⟩ := hp
  rw [hpe] at hW
  have hpv : v_ = some (.int (iI (bI (kJ S k u)))) := hpv
  subst hpv
  refine g_xcallS (As := [.int (iI (bI (kJ S k u)))]) (rest := []) K (c_X11_needState (kJ S k u) hst) (va_cwS 1 hts gC_X11_92 rfl rfl rfl (by decide +kernel) ⟨Nat.le_of_ble_eq_true rfl, Nat.le_of_ble_eq_true rfl⟩) hK hW rfl hl.1 rfl (Nat.le_of_ble_eq_true rfl) dX11_join_19 ⟨by dsimp only; omega, by dsimp only; omega⟩ (fun E_ ce_ q9_ H1 locs1 hE hW1 h1_ h2_ h3_ => g_outX ht hlk hW1 (fun _ _ h => h) (by obtain ⟨rfl, hE⟩ := hE; exact (Or.inr ⟨(show (pJoin S k u).1 = 2 from sGo_2 (a := okPP S k u) (b := okJ S k u) (d := true) (by (try simp only [okPP, okP, sIn, Bool.and_eq_true, Bool.or_eq_true, Bool.and_eq_false_iff, Bool.or_eq_false_iff, decide_eq_true_eq, decide_eq_false_iff_not, Bool.not_eq_true, Bool.not_eq_false, Bool.not_eq_true', Bool.not_eq_false', Bool.not_true, Bool.not_false, Bool.true_and, Bool.and_true, Bool.false_and, Bool.and_false, Bool.true_or, Bool.or_true, Bool.false_or, Bool.or_false]); first | done | rfl | omega) (by unfold okJ; rw [← kJ_join, hE, Bool.and_false])), rfl⟩)) h1_ h2_ h3_ (by first | omega | (dsimp only; omega)) (by first | omega | (dsimp only; omega))) (fun v_ f_ H locs hp hW => ?_)
  obtain ⟨hq_3, hpv, hpe⟩ := hp
  rw [hpe] at hW
  subst hpv
  (try simp only [okPP, okP, sIn, Bool.and_eq_true, Bool.or_eq_true, Bool.and_eq_false_iff, Bool.or_eq_false_iff, decide_eq_true_eq, decide_eq_false_iff_not, Bool.not_eq_true, Bool.not_eq_false, Bool.not_eq_true', Bool.not_eq_false', Bool.not_true, Bool.not_false, Bool.true_and, Bool.and_true, Bool.false_and, Bool.and_false, Bool.true_or, Bool.or_true, Bool.false_or, Bool.or_false] at hq_3)
  refine lv_aload_n hx hb dX11_join_22 rfl (lv_at hl 1 rfl) ?_
  refine lv_aload hx hb dX11_join_23 (lv_at hl 0 rfl) ?_
  refine g_put (ref := RX7) (T := TX7) (N := 9) (ci := 8) (ty := tyX7 3) (v := .ref (ad (1000 + 2 * (u).toNat))) hx hb hts wsC_X7 tyX7 tyX7_ok nmX7 hown hK hW (100000 + (1000 + 2 * (k).toNat)) (kW_at (kC_pay hwf (by omega) (show (k) < S.1 8 0 from by omega))) rfl 3 (by decide) (hts _ lC_X11_151) (fun x h => h) rfl (by decide +kernel) rfl rfl (by simp [payF]) dX11_join_25 (fun H locs hW => ?_)
  rw [kW_pay hwf (by omega) (show (k) < S.1 8 0 from by omega) (f := 21) (x := u) rfl (by simp [payF, pI, pR_r ad (show (u) ≠ -1 by omega)])] at hW
  refine lv_aload hx hb dX11_join_28 (lv_at hl 0 rfl) ?_
  refine lv_aload_n hx hb dX11_join_30 rfl (lv_at hl 1 rfl) ?_
  refine g_put (ref := RX7) (T := TX7) (N := 9) (ci := 8) (ty := tyX7 3) (v := .ref (ad (1000 + 2 * (k).toNat))) hx hb hts wsC_X7 tyX7 tyX7_ok nmX7 hown hK hW (100000 + (1000 + 2 * (u).toNat)) (kW_at (kC_pay (wf_pI (f := 21) hwf (k) (u) (by simp only [rLo, rHi]; omega)) (by omega) (show (u) < S.1 8 0 from by omega))) rfl 3 (by decide) (hts _ lC_X11_151) (fun x h => h) rfl (by decide +kernel) rfl rfl (by simp [payF]) dX11_join_31 (fun H locs hW => ?_)
  rw [kW_pay (wf_pI (f := 21) hwf (k) (u) (by simp only [rLo, rHi]; omega)) (by omega) (show (u) < S.1 8 0 from by omega) (f := 21) (x := k) rfl (by simp [payF, pI, pR_r ad (show (k) ≠ -1 by omega)])] at hW
  refine lv_aload_n hx hb dX11_join_34 rfl (lv_at hl 2 rfl) ?_
  refine g_get (ref := RX11) (T := TX11) (N := 1) (ci := 12) hx hb hts wsC_X11 hown hK hW (100000 + 0) (kW_at rfl) rfl 0 (by decide) (hts _ lC_X11_10) (fun x h => h) (v := .ref (ad 1)) rfl dX11_join_35 ?_
  obtain ⟨T, hT⟩ : ∃ x : ST, x = (pI (pI S 21 (k) (u)) 21 (u) (k)) := ⟨_, rfl⟩
  rw [← hT] at hW
  have hRo : okS T := by rw [hT]; exact (okS_pI (okS_pI ho _ _ (by decide) (by simp only [rLo, rHi]; omega)) _ _ (by decide) (by simp only [rLo, rHi]; omega))
  have hT8 : T.1 8 = S.1 8 := by rw [hT]; exact (pI_f _ _ _ (by decide)).trans (pI_f _ _ _ (by decide))
  have hTe : T.1 31 0 + cNF T ≤ S.1 31 0 + cNF S + 1 := by rw [hT, pI_f _ _ _ (by decide), pI_f _ _ _ (by decide), cNF_pI (by decide), cNF_pI (by decide)]; omega
  have hTn : nE T = nE S := nE_f (by rw [hT]; exact (pI_f _ _ _ (by decide)).trans (pI_f _ _ _ (by decide)))
  have hTc1 : kTc (nE T) = kTc (nE S) := by rw [hTn]
  have hTc2 : kTs (nE T) = kTs (nE S) := by rw [hTn]
  have hRb : nE T = 0 → bk 10 = D.1 21 := fun h => hE0 (by rw [← hTn]; exact h)
  have hRl : legW T := by rw [hT]; exact legW_join hlw (by omega) (by omega) (by omega) (by omega) (sJoin_ne (by rw [← kJ_join]; assumption))
  have hRe : T.1 31 0 + cNF T < 20000 := by omega
  have hRr := (sRuns_ok hRo).1
  have hRn := rdP_n hRo.1 (rdP_runs hRo)
  have hNP : nP (sRuns T).2 = nP S := (nP_runs hRo).trans (by unfold nP; rw [hT8])
  have t1 := kTc_le (show nE T ≤ nE (sRuns T).2 by omega)
  have t2 := kTs_le (show nE T ≤ nE (sRuns T).2 by omega)
  have hqj : sJoin S k u = true := by rw [← kJ_join]; assumption
  have hku := sJoin_ne hqj
  have hcA : (okPP S k u) = true := (by (try simp only [okPP, okP, sIn, Bool.and_eq_true, Bool.or_eq_true, Bool.and_eq_false_iff, Bool.or_eq_false_iff, decide_eq_true_eq, decide_eq_false_iff_not, Bool.not_eq_true, Bool.not_eq_false, Bool.not_eq_true', Bool.not_eq_false', Bool.not_true, Bool.not_false, Bool.true_and, Bool.and_true, Bool.false_and, Bool.and_false, Bool.true_or, Bool.or_true, Bool.false_or, Bool.or_false]); first | done | rfl | omega)
  have hcB : (okJ S k u) = true := by unfold okJ; rw [hcA, hqj]; rfl
  have hsp : pJoin S k u = (0, (sRuns T).2) := by unfold pJoin; rw [sGo_00 hcA hcB rfl, if_pos (show ((okPP S k u) && (okJ S k u) && true) = true by rw [hcA, hcB]; rfl)]; rw [hT]
  have hM1 : kTc (nE ((pJoin S k u).2)) = kTc (nE (sRuns T).2) := by rw [hsp]
  have hM2 : kTs (nE ((pJoin S k u).2)) = kTs (nE (sRuns T).2) := by rw [hsp]
  refine g_callV (i := 100000 + 1) (As := []) (rest := []) K (c_X6_runQueues (S := T) hRo.1 hRo hRl hRe hG0 hRb) (cwV 0 hts gC_X11_35 rfl rfl rfl (by decide +kernel) ⟨Nat.le_of_ble_eq_true rfl, Nat.le_of_ble_eq_true rfl⟩) hK hW (kW_at rfl) rfl rfl hl.1 rfl (Nat.le_of_ble_eq_true rfl) dX11_join_38 ⟨by dsimp only; omega, by dsimp only; omega⟩ (fun v_ f_ H locs hp hW => ?_)
  obtain ⟨bk9, I9, c9, q9, hpv, hb9, hpe⟩ := hp
  rw [hpe] at hW
  subst hpv
  refine lv_pop hx hb dX11_join_41 rfl ?_
  exact W.widen (by first | omega | (dsimp only; omega)) (by first | omega | (dsimp only; omega)) (vx_ret (g_vret hx hb hr hW ⟨by rw [hsp], ad, bk9, I9, c9, q9, rfl, fun h => hP0 (by rw [hsp] at h; rw [← hNP]; exact h), fun h => hb9 (by rw [hsp] at h; exact h), rfl, by rw [hsp]⟩ dX11_join_42 hlk))
set_option maxHeartbeats 4000000 in
set_option maxRecDepth 100000 in
theorem c_X11_withdraw {l : Launch} {D : va_G} {cy : Nat → ClassId} {B0 : Nat} {ad bk : Nat → Nat} {S : ST} {I : Int → Bool} {cX qX : Int → Int64} {G : gF} (k : Int) (hwf : wf S) (h_k : rI k) (ho : okS S) (hlw : legW S) (he : S.1 31 0 + cNF S < 19900) (hG0 : G 50001 = none) (hG2 : G 50002 = none) (hG3 : G 50003 = none) (hP0 : nP S = 0 → ad 11 = D.1 21) (hE0 : nE S = 0 → bk 10 = D.1 21) (hlg : lg4 S) (hst : l.stackTraces = false) : gX l yX11_withdraw vX11_withdraw 13 297 D cy B0 [.ref (ad 0), .int (iI (k))] (kW cy ad bk S (I, cX, qX) G) (fun r g_ => (pWith S k).1 = 0 ∧ ∃ (ad2 bk2 : Nat → Nat) (I2 : Int → Bool) (c2 q2 : Int → Int64), ad2 0 = ad 0 ∧ (nP (pWith S k).2.2 = 0 → ad2 11 = D.1 21) ∧ (nE (pWith S k).2.2 = 0 → bk2 10 = D.1 21) ∧ r = some (.int (iI (pWith S k).2.1)) ∧ g_ = kW cy ad2 bk2 (pWith S k).2.2 (I2, c2, q2) G) (fun E_ => ((pWith S k).1 = 1 ∧ E_ = xIO) ∨ ((pWith S k).1 = 2 ∧ E_ = xIS)) (kTc (nE (pWith S k).2.2) - kTc (nE S) + 16) (kTs (nE (pWith S k).2.2) - kTs (nE S) + 400) := by
  refine g_startX (cc := cX11_withdraw) (maxL := 4) (ret := (some .int)) (by decide) rfl (Nat.le_of_ble_eq_true rfl) ?_
  intro p_ e_ s_ m_ be_ me_ co_ ls H locs K hr hlk hnm ht hK hW hl
  obtain ⟨hx, hb, hml, hown, hts⟩ := id K
  have hl : lv_has ls 4 [(0, .ref (ad 0)), (1, .int (iI (k)))] := hl
  have h80 := wf_8 hwf 0
  have h310 := wf_31 hwf 0
  refine lv_aload_n hx hb dX11_withdraw_0 rfl (lv_at hl 0 rfl) ?_
  refine lv_iload_n hx hb dX11_withdraw_1 rfl (lv_at hl 1 rfl) ?_
  refine g_xcallV (i := 100000 + 0) (As := [.int (iI (k))]) (rest := []) K (c_X11_needPayment (S := S) (k) hwf ⟨by omega, by omega⟩ hst) (cwV 1 hts gC_X11_143 rfl rfl rfl (by decide +kernel) ⟨Nat.le_of_ble_eq_true rfl, Nat.le_of_ble_eq_true rfl⟩) hK hW (kW_at rfl) rfl rfl hl.1 rfl (Nat.le_of_ble_eq_true rfl) dX11_withdraw_2 ⟨by dsimp only; omega, by dsimp only; omega⟩ (fun E_ ce_ q9_ H1 locs1 hE hW1 h1_ h2_ h3_ => g_outX ht hlk hW1 (fun _ _ h => h) (by obtain ⟨rfl, hE⟩ := hE; exact (Or.inl ⟨(show (pWith S k).1 = 1 from sGo_1 (a := okP S k) (b := okW S k) (d := true) (by have hE2 := hE; (try simp only [okW, okF, okP, sIn, sEnds, Bool.and_eq_true, Bool.or_eq_true, Bool.and_eq_false_iff, Bool.or_eq_false_iff, decide_eq_true_eq, decide_eq_false_iff_not, Bool.not_eq_true, Bool.not_eq_false, Bool.not_eq_true', Bool.not_eq_false', Bool.not_true, Bool.not_false, Bool.true_and, Bool.and_true, Bool.false_and, Bool.and_false, Bool.true_or, Bool.or_true, Bool.false_or, Bool.or_false] at hE2); simp only [okW, okF, okP, sIn, sEnds, Bool.and_eq_true, Bool.or_eq_true, Bool.and_eq_false_iff, Bool.or_eq_false_iff, decide_eq_true_eq, decide_eq_false_iff_not, Bool.not_eq_true, Bool.not_eq_false, Bool.not_eq_true', Bool.not_eq_false', Bool.not_true, Bool.not_false, Bool.true_and, Bool.and_true, Bool.false_and, Bool.and_false, Bool.true_or, Bool.or_true, Bool.false_or, Bool.or_false]; omega)), rfl⟩)) h1_ h2_ h3_ (by first | omega | (dsimp only; omega)) (by first | omega | (dsimp only; omega))) (fun v_ f_ H locs hp hW => ?_)
  obtain ⟨hq_1, hpv, hpe⟩ := hp
  rw [hpe] at hW
  have hpv : v_ = some (.ref (ad (1000 + 2 * (k).toNat))) := hpv
  subst hpv
  (try simp only [okW, okF, okP, sIn, sEnds, Bool.and_eq_true, Bool.or_eq_true, Bool.and_eq_false_iff, Bool.or_eq_false_iff, decide_eq_true_eq, decide_eq_false_iff_not, Bool.not_eq_true, Bool.not_eq_false, Bool.not_eq_true', Bool.not_eq_false', Bool.not_true, Bool.not_false, Bool.true_and, Bool.and_true, Bool.false_and, Bool.and_false, Bool.true_or, Bool.or_true, Bool.false_or, Bool.or_false] at hq_1)
  refine lv_astore_n (lv' := [(2, .ref (ad (1000 + 2 * (k).toNat))), (0, .ref (ad 0)), (1, .int (iI (k)))]) hx hb dX11_withdraw_5 rfl hl (by decide) rfl (fun ls hl => ?_)
  refine lv_aload_n hx hb dX11_withdraw_6 rfl (lv_at hl 0 rfl) ?_
  have j_2 : ∀ (zJ : Bool) (H : Heap) (locs : List Loc), zJ = (!sEnds S k) → gW D B0 s_ (kW cy ad bk S (I, cX, qX) G) H locs → W p_ l e_ { frames := 13, cells := kTc (nE (pWith S k).2.2) - kTc (nE S) + 16, slots := kTs (nE (pWith S k).2.2) - kTs (nE S) + 400, locals := 297 } s_ m_ ([.ref (ad 0), .int (iI (k))] : List Value).toArray be_ me_ co_ H locs (0 + 1) (0 + 6) (vx_MQ be_ (gQ D B0 (fun (r : Option Value) (g_ : gF) => (pWith S k).1 = 0 ∧ ∃ (ad2 bk2 : Nat → Nat) (I2 : Int → Bool) (c2 q2 : Int → Int64), ad2 0 = ad 0 ∧ (nP (pWith S k).2.2 = 0 → ad2 11 = D.1 21) ∧ (nE (pWith S k).2.2 = 0 → bk2 10 = D.1 21) ∧ r = some (.int (iI (pWith S k).2.1)) ∧ g_ = kW cy ad2 bk2 (pWith S k).2.2 (I2, c2, q2) G)) (gXC D B0 (kW cy ad bk S (I, cX, qX) G) (fun E_ : String => ((pWith S k).1 = 1 ∧ E_ = xIO) ∨ ((pWith S k).1 = 2 ∧ E_ = xIS))) ([.ref (ad 0), .int (iI (k))] : List Value).toArray s_ (kTc (nE (pWith S k).2.2) - kTc (nE S) + 16) (kTs (nE (pWith S k).2.2) - kTs (nE S) + 400) (fun q : Nat => B0 ≤ q)) (F0 m_ 18 ls [.int (iI (bI (zJ)))]) := by
    intro zJ H locs hzJ hW
    subst hzJ
    refine g_xcallS (As := [.int (iI (bI (!sEnds S k)))]) (rest := []) K (c_X11_needState (!sEnds S k) hst) (va_cwS 1 hts gC_X11_92 rfl rfl rfl (by decide +kernel) ⟨Nat.le_of_ble_eq_true rfl, Nat.le_of_ble_eq_true rfl⟩) hK hW rfl hl.1 rfl (Nat.le_of_ble_eq_true rfl) dX11_withdraw_18 ⟨by dsimp only; omega, by dsimp only; omega⟩ (fun E_ ce_ q9_ H1 locs1 hE hW1 h1_ h2_ h3_ => g_outX ht hlk hW1 (fun _ _ h => h) (by obtain ⟨rfl, hE⟩ := hE; exact (Or.inr ⟨(show (pWith S k).1 = 2 from sGo_2 (a := okP S k) (b := okW S k) (d := true) (by (try simp only [okW, okF, okP, sIn, sEnds, Bool.and_eq_true, Bool.or_eq_true, Bool.and_eq_false_iff, Bool.or_eq_false_iff, decide_eq_true_eq, decide_eq_false_iff_not, Bool.not_eq_true, Bool.not_eq_false, Bool.not_eq_true', Bool.not_eq_false', Bool.not_true, Bool.not_false, Bool.true_and, Bool.and_true, Bool.false_and, Bool.and_false, Bool.true_or, Bool.or_true, Bool.false_or, Bool.or_false]); first | done | rfl | omega) (by have hE2 := hE; (try simp only [okW, okF, okP, sIn, sEnds, Bool.and_eq_true, Bool.or_eq_true, Bool.and_eq_false_iff, Bool.or_eq_false_iff, decide_eq_true_eq, decide_eq_false_iff_not, Bool.not_eq_true, Bool.not_eq_false, Bool.not_eq_true', Bool.not_eq_false', Bool.not_true, Bool.not_false, Bool.true_and, Bool.and_true, Bool.false_and, Bool.and_false, Bool.true_or, Bool.or_true, Bool.false_or, Bool.or_false] at hE2); simp only [okW, okF, okP, sIn, sEnds, Bool.and_eq_true, Bool.or_eq_true, Bool.and_eq_false_iff, Bool.or_eq_false_iff, decide_eq_true_eq, decide_eq_false_iff_not, Bool.not_eq_true, Bool.not_eq_false, Bool.not_eq_true', Bool.not_eq_false', Bool.not_true, Bool.not_false, Bool.true_and, Bool.and_true, Bool.false_and, Bool.and_false, Bool.true_or, Bool.or_true, Bool.false_or, Bool.or_false]; omega)), rfl⟩)) h1_ h2_ h3_ (by first | omega | (dsimp only; omega)) (by first | omega | (dsimp only; omega))) (fun v_ f_ H locs hp hW => ?_)
    obtain ⟨hq_3, hpv, hpe⟩ := hp
    rw [hpe] at hW
    subst hpv
    (try simp only [okW, okF, okP, sIn, sEnds, Bool.and_eq_true, Bool.or_eq_true, Bool.and_eq_false_iff, Bool.or_eq_false_iff, decide_eq_true_eq, decide_eq_false_iff_not, Bool.not_eq_true, Bool.not_eq_false, Bool.not_eq_true', Bool.not_eq_false', Bool.not_true, Bool.not_false, Bool.true_and, Bool.and_true, Bool.false_and, Bool.and_false, Bool.true_or, Bool.or_true, Bool.false_or, Bool.or_false] at hq_3)
    have hs4 : S.1 18 k ≠ 4 := by omega
    refine lv_aload_n hx hb dX11_withdraw_21 rfl (lv_at hl 0 rfl) ?_
    refine g_callV (i := 100000 + (1000 + 2 * (k).toNat)) (As := []) (rest := []) K (c_X7_giveBack (k) hwf (by omega) (by omega) (gb_leg hlw hlg (by omega) (by omega) hs4)) (cwV 0 hts gC_X11_158 rfl rfl rfl (by decide +kernel) ⟨Nat.le_of_ble_eq_true rfl, Nat.le_of_ble_eq_true rfl⟩) hK hW (kW_at (kC_pay hwf (by omega) (show (k) < S.1 8 0 from by omega))) rfl rfl hl.1 rfl (Nat.le_of_ble_eq_true rfl) dX11_withdraw_22 ⟨by dsimp only; omega, by dsimp only; omega⟩ (fun v_ f_ H locs hp hW => ?_)
    obtain ⟨hpv, hpe⟩ := hp
    rw [hpe] at hW
    have hpv : v_ = some (.int (iI (sRetN S (k)))) := hpv
    subst hpv
    refine lv_istore_n (lv' := [(3, .int (iI (sRetN S (k)))), (2, .ref (ad (1000 + 2 * (k).toNat))), (0, .ref (ad 0)), (1, .int (iI (k)))]) hx hb dX11_withdraw_25 rfl hl (by decide) rfl (fun ls hl => ?_)
    refine lv_aload_n hx hb dX11_withdraw_26 rfl (lv_at hl 2 rfl) ?_
    refine g_get (ref := RX11) (T := TX11) (N := 1) (ci := 12) hx hb hts wsC_X11 hown hK hW (100000 + 0) (kW_at rfl) rfl 0 (by decide) (hts _ lC_X11_10) (fun x h => h) (v := .ref (ad 1)) rfl dX11_withdraw_27 ?_
    obtain ⟨T, hT⟩ : ∃ x : ST, x = (sRet S k) := ⟨_, rfl⟩
    rw [← hT] at hW
    have hRo : okS T := by rw [hT]; exact okS_ret ho (by omega) (by omega) hs4 hlg
    have hT8 : T.1 8 = S.1 8 := by rw [hT]; exact sRet_f S k (by decide)
    have hT21 : T.1 21 = S.1 21 := by rw [hT]; exact sRet_f S k (by decide)
    have hTe : T.1 31 0 + cNF T ≤ S.1 31 0 + cNF S + 1 := by rw [hT, sRet_f S k (show (31 : Nat) ≠ 18 by decide), cNF_ret hs4 ((hlg k (by omega) (by omega)).imp id (fun h => h.1))]; omega
    have hTn : nE T = nE S := nE_f (by rw [hT]; exact sRet_f S k (by decide))
    have hTc1 : kTc (nE T) = kTc (nE S) := by rw [hTn]
    have hTc2 : kTs (nE T) = kTs (nE S) := by rw [hTn]
    have hRb : nE T = 0 → bk 10 = D.1 21 := fun h => hE0 (by rw [← hTn]; exact h)
    have hRl : legW T := legW_of (congrFun hT8 0) hT21 hlw
    have hRe : T.1 31 0 + cNF T < 20000 := by omega
    have hRr := (sRuns_ok hRo).1
    have hRn := rdP_n hRo.1 (rdP_runs hRo)
    have hNP : nP (sRuns T).2 = nP S := (nP_runs hRo).trans (by unfold nP; rw [hT8])
    have t1 := kTc_le (show nE T ≤ nE (sRuns T).2 by omega)
    have t2 := kTs_le (show nE T ≤ nE (sRuns T).2 by omega)
    have hcA : (okP S k) = true := (by (try simp only [okW, okF, okP, sIn, sEnds, Bool.and_eq_true, Bool.or_eq_true, Bool.and_eq_false_iff, Bool.or_eq_false_iff, decide_eq_true_eq, decide_eq_false_iff_not, Bool.not_eq_true, Bool.not_eq_false, Bool.not_eq_true', Bool.not_eq_false', Bool.not_true, Bool.not_false, Bool.true_and, Bool.and_true, Bool.false_and, Bool.and_false, Bool.true_or, Bool.or_true, Bool.false_or, Bool.or_false]); first | done | rfl | omega)
    have hcB : (okW S k) = true := (by (try simp only [okW, okF, okP, sIn, sEnds, Bool.and_eq_true, Bool.or_eq_true, Bool.and_eq_false_iff, Bool.or_eq_false_iff, decide_eq_true_eq, decide_eq_false_iff_not, Bool.not_eq_true, Bool.not_eq_false, Bool.not_eq_true', Bool.not_eq_false', Bool.not_true, Bool.not_false, Bool.true_and, Bool.and_true, Bool.false_and, Bool.and_false, Bool.true_or, Bool.or_true, Bool.false_or, Bool.or_false]); first | done | rfl | omega)
    have hcC : (true) = true := (by (try simp only [okW, okF, okP, sIn, sEnds, Bool.and_eq_true, Bool.or_eq_true, Bool.and_eq_false_iff, Bool.or_eq_false_iff, decide_eq_true_eq, decide_eq_false_iff_not, Bool.not_eq_true, Bool.not_eq_false, Bool.not_eq_true', Bool.not_eq_false', Bool.not_true, Bool.not_false, Bool.true_and, Bool.and_true, Bool.false_and, Bool.and_false, Bool.true_or, Bool.or_true, Bool.false_or, Bool.or_false]); first | done | rfl | omega)
    have hsp : pWith S k = (0, sRetN S k, (sRuns T).2) := by unfold pWith; rw [sGo_00 hcA hcB hcC, if_pos (show ((okP S k) && (okW S k) && (true)) = true by rw [hcA, hcB, hcC]; rfl)]; rw [hT]
    have hM1 : kTc (nE ((pWith S k).2.2)) = kTc (nE (sRuns T).2) := by rw [hsp]
    have hM2 : kTs (nE ((pWith S k).2.2)) = kTs (nE (sRuns T).2) := by rw [hsp]
    refine g_callV (i := 100000 + 1) (As := []) (rest := []) K (c_X6_runQueues (S := T) hRo.1 hRo hRl hRe hG0 hRb) (cwV 0 hts gC_X11_35 rfl rfl rfl (by decide +kernel) ⟨Nat.le_of_ble_eq_true rfl, Nat.le_of_ble_eq_true rfl⟩) hK hW (kW_at rfl) rfl rfl hl.1 rfl (Nat.le_of_ble_eq_true rfl) dX11_withdraw_30 ⟨by dsimp only; omega, by dsimp only; omega⟩ (fun v_ f_ H locs hp hW => ?_)
    obtain ⟨bk9, I9, c9, q9, hpv, hb9, hpe⟩ := hp
    rw [hpe] at hW
    subst hpv
    refine lv_pop hx hb dX11_withdraw_33 rfl ?_
    refine lv_iload_n hx hb dX11_withdraw_34 rfl (lv_at hl 0 rfl) ?_
    exact W.widen (by first | omega | (dsimp only; omega)) (by first | omega | (dsimp only; omega)) (vx_ret (g_iret hx hb hr hW ⟨by rw [hsp], ad, bk9, I9, c9, q9, rfl, fun h => hP0 (by rw [hsp] at h; rw [← hNP]; exact h), fun h => hb9 (by rw [hsp] at h; exact h), by rw [hsp], by rw [hsp]⟩ dX11_withdraw_35 hlk))
  refine g_callV (i := 100000 + (1000 + 2 * (k).toNat)) (As := []) (rest := []) K (c_X7_hasEnded (k) hwf (by omega) (by omega)) (cwV 0 hts gC_X11_155 rfl rfl rfl (by decide +kernel) ⟨Nat.le_of_ble_eq_true rfl, Nat.le_of_ble_eq_true rfl⟩) hK hW (kW_at (kC_pay hwf (by omega) (show (k) < S.1 8 0 from by omega))) rfl rfl hl.1 rfl (Nat.le_of_ble_eq_true rfl) dX11_withdraw_7 ⟨by dsimp only; omega, by dsimp only; omega⟩ (fun v_ f_ H locs hp hW => ?_)
  obtain ⟨hpv, hpe⟩ := hp
  rw [hpe] at hW
  have hpv : v_ = some (.int (iI (bI (sEnds S (k))))) := hpv
  subst hpv
  refine xi_ifb_ne (tgt := 17) hx hb dX11_withdraw_10 (by decide) (fun c_4 => ?_) (fun c_4 => ?_)
  · refine xi_iconst hx hb dX11_withdraw_17 ?_
    exact xi_eq (z' := bI (!sEnds S k)) (bI_f (by simp only [c_4, decide_true, decide_false, Bool.true_and, Bool.and_true, Bool.false_and, Bool.and_false, Bool.true_or, Bool.or_true, Bool.false_or, Bool.or_false, Bool.not_true, Bool.not_false, eq_self])) (j_2 _ _ _ rfl hW)
  · refine xi_iconst hx hb dX11_withdraw_13 ?_
    refine lv_goto (tgt := 18) hx hb dX11_withdraw_14 (by decide) ?_
    exact xi_eq (z' := bI (!sEnds S k)) (bI_t (by simp only [c_4, decide_true, decide_false, Bool.true_and, Bool.and_true, Bool.false_and, Bool.and_false, Bool.true_or, Bool.or_true, Bool.false_or, Bool.or_false, Bool.not_true, Bool.not_false, eq_self])) (j_2 _ _ _ rfl hW)
set_option maxHeartbeats 4000000 in
set_option maxRecDepth 100000 in
theorem c_X11_refuse {l : Launch} {D : va_G} {cy : Nat → ClassId} {B0 : Nat} {ad bk : Nat → Nat} {S : ST} {I : Int → Bool} {cX qX : Int → Int64} {G : gF} (k : Int) (hwf : wf S) (h_k : rI k) (ho : okS S) (hlw : legW S) (he : S.1 31 0 + cNF S < 19900) (hG0 : G 50001 = none) (hG2 : G 50002 = none) (hG3 : G 50003 = none) (hP0 : nP S = 0 → ad 11 = D.1 21) (hE0 : nE S = 0 → bk 10 = D.1 21) (hlg : lg4 S) (hst : l.stackTraces = false) : gX l yX11_refuse vX11_refuse 13 297 D cy B0 [.ref (ad 0), .int (iI (k))] (kW cy ad bk S (I, cX, qX) G) (fun r g_ => (pRefu S k).1 = 0 ∧ ∃ (ad2 bk2 : Nat → Nat) (I2 : Int → Bool) (c2 q2 : Int → Int64), ad2 0 = ad 0 ∧ (nP (pRefu S k).2.2 = 0 → ad2 11 = D.1 21) ∧ (nE (pRefu S k).2.2 = 0 → bk2 10 = D.1 21) ∧ r = some (.int (iI (pRefu S k).2.1)) ∧ g_ = kW cy ad2 bk2 (pRefu S k).2.2 (I2, c2, q2) G) (fun E_ => ((pRefu S k).1 = 1 ∧ E_ = xIO) ∨ ((pRefu S k).1 = 2 ∧ E_ = xIS)) (kTc (nE (pRefu S k).2.2) - kTc (nE S) + 16) (kTs (nE (pRefu S k).2.2) - kTs (nE S) + 400) := by
  refine g_startX (cc := cX11_refuse) (maxL := 4) (ret := (some .int)) (by decide) rfl (Nat.le_of_ble_eq_true rfl) ?_
  intro p_ e_ s_ m_ be_ me_ co_ ls H locs K hr hlk hnm ht hK hW hl
  obtain ⟨hx, hb, hml, hown, hts⟩ := id K
  have hl : lv_has ls 4 [(0, .ref (ad 0)), (1, .int (iI (k)))] := hl
  have h80 := wf_8 hwf 0
  have h310 := wf_31 hwf 0
  refine lv_aload_n hx hb dX11_refuse_0 rfl (lv_at hl 0 rfl) ?_
  refine lv_iload_n hx hb dX11_refuse_1 rfl (lv_at hl 1 rfl) ?_
  refine g_xcallV (i := 100000 + 0) (As := [.int (iI (k))]) (rest := []) K (c_X11_needPayment (S := S) (k) hwf ⟨by omega, by omega⟩ hst) (cwV 1 hts gC_X11_143 rfl rfl rfl (by decide +kernel) ⟨Nat.le_of_ble_eq_true rfl, Nat.le_of_ble_eq_true rfl⟩) hK hW (kW_at rfl) rfl rfl hl.1 rfl (Nat.le_of_ble_eq_true rfl) dX11_refuse_2 ⟨by dsimp only; omega, by dsimp only; omega⟩ (fun E_ ce_ q9_ H1 locs1 hE hW1 h1_ h2_ h3_ => g_outX ht hlk hW1 (fun _ _ h => h) (by obtain ⟨rfl, hE⟩ := hE; exact (Or.inl ⟨(show (pRefu S k).1 = 1 from sGo_1 (a := okP S k) (b := okF S k) (d := true) (by have hE2 := hE; (try simp only [okW, okF, okP, sIn, sEnds, Bool.and_eq_true, Bool.or_eq_true, Bool.and_eq_false_iff, Bool.or_eq_false_iff, decide_eq_true_eq, decide_eq_false_iff_not, Bool.not_eq_true, Bool.not_eq_false, Bool.not_eq_true', Bool.not_eq_false', Bool.not_true, Bool.not_false, Bool.true_and, Bool.and_true, Bool.false_and, Bool.and_false, Bool.true_or, Bool.or_true, Bool.false_or, Bool.or_false] at hE2); simp only [okW, okF, okP, sIn, sEnds, Bool.and_eq_true, Bool.or_eq_true, Bool.and_eq_false_iff, Bool.or_eq_false_iff, decide_eq_true_eq, decide_eq_false_iff_not, Bool.not_eq_true, Bool.not_eq_false, Bool.not_eq_true', Bool.not_eq_false', Bool.not_true, Bool.not_false, Bool.true_and, Bool.and_true, Bool.false_and, Bool.and_false, Bool.true_or, Bool.or_true, Bool.false_or, Bool.or_false]; omega)), rfl⟩)) h1_ h2_ h3_ (by first | omega | (dsimp only; omega)) (by first | omega | (dsimp only; omega))) (fun v_ f_ H locs hp hW => ?_)
  obtain ⟨hq_1, hpv, hpe⟩ := hp
  rw [hpe] at hW
  have hpv : v_ = some (.ref (ad (1000 + 2 * (k).toNat))) := hpv
  subst hpv
  (try simp only [okW, okF, okP, sIn, sEnds, Bool.and_eq_true, Bool.or_eq_true, Bool.and_eq_false_iff, Bool.or_eq_false_iff, decide_eq_true_eq, decide_eq_false_iff_not, Bool.not_eq_true, Bool.not_eq_false, Bool.not_eq_true', Bool.not_eq_false', Bool.not_true, Bool.not_false, Bool.true_and, Bool.and_true, Bool.false_and, Bool.and_false, Bool.true_or, Bool.or_true, Bool.false_or, Bool.or_false] at hq_1)
  refine lv_astore_n (lv' := [(2, .ref (ad (1000 + 2 * (k).toNat))), (0, .ref (ad 0)), (1, .int (iI (k)))]) hx hb dX11_refuse_5 rfl hl (by decide) rfl (fun ls hl => ?_)
  refine lv_aload_n hx hb dX11_refuse_6 rfl (lv_at hl 0 rfl) ?_
  have j_2 : ∀ (zJ : Bool) (H : Heap) (locs : List Loc), zJ = (decide (S.1 18 k = 1)) → gW D B0 s_ (kW cy ad bk S (I, cX, qX) G) H locs → W p_ l e_ { frames := 13, cells := kTc (nE (pRefu S k).2.2) - kTc (nE S) + 16, slots := kTs (nE (pRefu S k).2.2) - kTs (nE S) + 400, locals := 297 } s_ m_ ([.ref (ad 0), .int (iI (k))] : List Value).toArray be_ me_ co_ H locs (0 + 1) (0 + 6) (vx_MQ be_ (gQ D B0 (fun (r : Option Value) (g_ : gF) => (pRefu S k).1 = 0 ∧ ∃ (ad2 bk2 : Nat → Nat) (I2 : Int → Bool) (c2 q2 : Int → Int64), ad2 0 = ad 0 ∧ (nP (pRefu S k).2.2 = 0 → ad2 11 = D.1 21) ∧ (nE (pRefu S k).2.2 = 0 → bk2 10 = D.1 21) ∧ r = some (.int (iI (pRefu S k).2.1)) ∧ g_ = kW cy ad2 bk2 (pRefu S k).2.2 (I2, c2, q2) G)) (gXC D B0 (kW cy ad bk S (I, cX, qX) G) (fun E_ : String => ((pRefu S k).1 = 1 ∧ E_ = xIO) ∨ ((pRefu S k).1 = 2 ∧ E_ = xIS))) ([.ref (ad 0), .int (iI (k))] : List Value).toArray s_ (kTc (nE (pRefu S k).2.2) - kTc (nE S) + 16) (kTs (nE (pRefu S k).2.2) - kTs (nE S) + 400) (fun q : Nat => B0 ≤ q)) (F0 m_ 19 ls [.int (iI (bI (zJ)))]) := by
    intro zJ H locs hzJ hW
    subst hzJ
    refine g_xcallS (As := [.int (iI (bI (decide (S.1 18 k = 1))))]) (rest := []) K (c_X11_needState (decide (S.1 18 k = 1)) hst) (va_cwS 1 hts gC_X11_92 rfl rfl rfl (by decide +kernel) ⟨Nat.le_of_ble_eq_true rfl, Nat.le_of_ble_eq_true rfl⟩) hK hW rfl hl.1 rfl (Nat.le_of_ble_eq_true rfl) dX11_refuse_19 ⟨by dsimp only; omega, by dsimp only; omega⟩ (fun E_ ce_ q9_ H1 locs1 hE hW1 h1_ h2_ h3_ => g_outX ht hlk hW1 (fun _ _ h => h) (by obtain ⟨rfl, hE⟩ := hE; exact (Or.inr ⟨(show (pRefu S k).1 = 2 from sGo_2 (a := okP S k) (b := okF S k) (d := true) (by (try simp only [okW, okF, okP, sIn, sEnds, Bool.and_eq_true, Bool.or_eq_true, Bool.and_eq_false_iff, Bool.or_eq_false_iff, decide_eq_true_eq, decide_eq_false_iff_not, Bool.not_eq_true, Bool.not_eq_false, Bool.not_eq_true', Bool.not_eq_false', Bool.not_true, Bool.not_false, Bool.true_and, Bool.and_true, Bool.false_and, Bool.and_false, Bool.true_or, Bool.or_true, Bool.false_or, Bool.or_false]); first | done | rfl | omega) (by have hE2 := hE; (try simp only [okW, okF, okP, sIn, sEnds, Bool.and_eq_true, Bool.or_eq_true, Bool.and_eq_false_iff, Bool.or_eq_false_iff, decide_eq_true_eq, decide_eq_false_iff_not, Bool.not_eq_true, Bool.not_eq_false, Bool.not_eq_true', Bool.not_eq_false', Bool.not_true, Bool.not_false, Bool.true_and, Bool.and_true, Bool.false_and, Bool.and_false, Bool.true_or, Bool.or_true, Bool.false_or, Bool.or_false] at hE2); simp only [okW, okF, okP, sIn, sEnds, Bool.and_eq_true, Bool.or_eq_true, Bool.and_eq_false_iff, Bool.or_eq_false_iff, decide_eq_true_eq, decide_eq_false_iff_not, Bool.not_eq_true, Bool.not_eq_false, Bool.not_eq_true', Bool.not_eq_false', Bool.not_true, Bool.not_false, Bool.true_and, Bool.and_true, Bool.false_and, Bool.and_false, Bool.true_or, Bool.or_true, Bool.false_or, Bool.or_false]; omega)), rfl⟩)) h1_ h2_ h3_ (by first | omega | (dsimp only; omega)) (by first | omega | (dsimp only; omega))) (fun v_ f_ H locs hp hW => ?_)
    obtain ⟨hq_3, hpv, hpe⟩ := hp
    rw [hpe] at hW
    subst hpv
    (try simp only [okW, okF, okP, sIn, sEnds, Bool.and_eq_true, Bool.or_eq_true, Bool.and_eq_false_iff, Bool.or_eq_false_iff, decide_eq_true_eq, decide_eq_false_iff_not, Bool.not_eq_true, Bool.not_eq_false, Bool.not_eq_true', Bool.not_eq_false', Bool.not_true, Bool.not_false, Bool.true_and, Bool.and_true, Bool.false_and, Bool.and_false, Bool.true_or, Bool.or_true, Bool.false_or, Bool.or_false] at hq_3)
    have hs4 : S.1 18 k ≠ 4 := by omega
    refine lv_aload_n hx hb dX11_refuse_22 rfl (lv_at hl 0 rfl) ?_
    refine g_callV (i := 100000 + (1000 + 2 * (k).toNat)) (As := []) (rest := []) K (c_X7_giveBack (k) hwf (by omega) (by omega) (gb_leg hlw hlg (by omega) (by omega) hs4)) (cwV 0 hts gC_X11_158 rfl rfl rfl (by decide +kernel) ⟨Nat.le_of_ble_eq_true rfl, Nat.le_of_ble_eq_true rfl⟩) hK hW (kW_at (kC_pay hwf (by omega) (show (k) < S.1 8 0 from by omega))) rfl rfl hl.1 rfl (Nat.le_of_ble_eq_true rfl) dX11_refuse_23 ⟨by dsimp only; omega, by dsimp only; omega⟩ (fun v_ f_ H locs hp hW => ?_)
    obtain ⟨hpv, hpe⟩ := hp
    rw [hpe] at hW
    have hpv : v_ = some (.int (iI (sRetN S (k)))) := hpv
    subst hpv
    refine lv_istore_n (lv' := [(3, .int (iI (sRetN S (k)))), (2, .ref (ad (1000 + 2 * (k).toNat))), (0, .ref (ad 0)), (1, .int (iI (k)))]) hx hb dX11_refuse_26 rfl hl (by decide) rfl (fun ls hl => ?_)
    refine lv_aload_n hx hb dX11_refuse_27 rfl (lv_at hl 2 rfl) ?_
    refine g_get (ref := RX11) (T := TX11) (N := 1) (ci := 12) hx hb hts wsC_X11 hown hK hW (100000 + 0) (kW_at rfl) rfl 0 (by decide) (hts _ lC_X11_10) (fun x h => h) (v := .ref (ad 1)) rfl dX11_refuse_28 ?_
    obtain ⟨T, hT⟩ : ∃ x : ST, x = (sRet S k) := ⟨_, rfl⟩
    rw [← hT] at hW
    have hRo : okS T := by rw [hT]; exact okS_ret ho (by omega) (by omega) hs4 hlg
    have hT8 : T.1 8 = S.1 8 := by rw [hT]; exact sRet_f S k (by decide)
    have hT21 : T.1 21 = S.1 21 := by rw [hT]; exact sRet_f S k (by decide)
    have hTe : T.1 31 0 + cNF T ≤ S.1 31 0 + cNF S + 1 := by rw [hT, sRet_f S k (show (31 : Nat) ≠ 18 by decide), cNF_ret hs4 ((hlg k (by omega) (by omega)).imp id (fun h => h.1))]; omega
    have hTn : nE T = nE S := nE_f (by rw [hT]; exact sRet_f S k (by decide))
    have hTc1 : kTc (nE T) = kTc (nE S) := by rw [hTn]
    have hTc2 : kTs (nE T) = kTs (nE S) := by rw [hTn]
    have hRb : nE T = 0 → bk 10 = D.1 21 := fun h => hE0 (by rw [← hTn]; exact h)
    have hRl : legW T := legW_of (congrFun hT8 0) hT21 hlw
    have hRe : T.1 31 0 + cNF T < 20000 := by omega
    have hRr := (sRuns_ok hRo).1
    have hRn := rdP_n hRo.1 (rdP_runs hRo)
    have hNP : nP (sRuns T).2 = nP S := (nP_runs hRo).trans (by unfold nP; rw [hT8])
    have t1 := kTc_le (show nE T ≤ nE (sRuns T).2 by omega)
    have t2 := kTs_le (show nE T ≤ nE (sRuns T).2 by omega)
    have hcA : (okP S k) = true := (by (try simp only [okW, okF, okP, sIn, sEnds, Bool.and_eq_true, Bool.or_eq_true, Bool.and_eq_false_iff, Bool.or_eq_false_iff, decide_eq_true_eq, decide_eq_false_iff_not, Bool.not_eq_true, Bool.not_eq_false, Bool.not_eq_true', Bool.not_eq_false', Bool.not_true, Bool.not_false, Bool.true_and, Bool.and_true, Bool.false_and, Bool.and_false, Bool.true_or, Bool.or_true, Bool.false_or, Bool.or_false]); first | done | rfl | omega)
    have hcB : (okF S k) = true := (by (try simp only [okW, okF, okP, sIn, sEnds, Bool.and_eq_true, Bool.or_eq_true, Bool.and_eq_false_iff, Bool.or_eq_false_iff, decide_eq_true_eq, decide_eq_false_iff_not, Bool.not_eq_true, Bool.not_eq_false, Bool.not_eq_true', Bool.not_eq_false', Bool.not_true, Bool.not_false, Bool.true_and, Bool.and_true, Bool.false_and, Bool.and_false, Bool.true_or, Bool.or_true, Bool.false_or, Bool.or_false]); first | done | rfl | omega)
    have hcC : (true) = true := (by (try simp only [okW, okF, okP, sIn, sEnds, Bool.and_eq_true, Bool.or_eq_true, Bool.and_eq_false_iff, Bool.or_eq_false_iff, decide_eq_true_eq, decide_eq_false_iff_not, Bool.not_eq_true, Bool.not_eq_false, Bool.not_eq_true', Bool.not_eq_false', Bool.not_true, Bool.not_false, Bool.true_and, Bool.and_true, Bool.false_and, Bool.and_false, Bool.true_or, Bool.or_true, Bool.false_or, Bool.or_false]); first | done | rfl | omega)
    have hsp : pRefu S k = (0, sRetN S k, (sRuns T).2) := by unfold pRefu; rw [sGo_00 hcA hcB hcC, if_pos (show ((okP S k) && (okF S k) && (true)) = true by rw [hcA, hcB, hcC]; rfl)]; rw [hT]
    have hM1 : kTc (nE ((pRefu S k).2.2)) = kTc (nE (sRuns T).2) := by rw [hsp]
    have hM2 : kTs (nE ((pRefu S k).2.2)) = kTs (nE (sRuns T).2) := by rw [hsp]
    refine g_callV (i := 100000 + 1) (As := []) (rest := []) K (c_X6_runQueues (S := T) hRo.1 hRo hRl hRe hG0 hRb) (cwV 0 hts gC_X11_35 rfl rfl rfl (by decide +kernel) ⟨Nat.le_of_ble_eq_true rfl, Nat.le_of_ble_eq_true rfl⟩) hK hW (kW_at rfl) rfl rfl hl.1 rfl (Nat.le_of_ble_eq_true rfl) dX11_refuse_31 ⟨by dsimp only; omega, by dsimp only; omega⟩ (fun v_ f_ H locs hp hW => ?_)
    obtain ⟨bk9, I9, c9, q9, hpv, hb9, hpe⟩ := hp
    rw [hpe] at hW
    subst hpv
    refine lv_pop hx hb dX11_refuse_34 rfl ?_
    refine lv_iload_n hx hb dX11_refuse_35 rfl (lv_at hl 0 rfl) ?_
    exact W.widen (by first | omega | (dsimp only; omega)) (by first | omega | (dsimp only; omega)) (vx_ret (g_iret hx hb hr hW ⟨by rw [hsp], ad, bk9, I9, c9, q9, rfl, fun h => hP0 (by rw [hsp] at h; rw [← hNP]; exact h), fun h => hb9 (by rw [hsp] at h; exact h), by rw [hsp], by rw [hsp]⟩ dX11_refuse_36 hlk))
  refine g_get (ref := RX7) (T := TX7) (N := 9) (ci := 8) hx hb hts wsC_X7 hown hK hW (100000 + (1000 + 2 * (k).toNat)) (kW_at (kC_pay hwf (by omega) (show (k) < S.1 8 0 from by omega))) rfl 2 (by decide) (hts _ lC_X11_161) (fun x h => h) (v := .int (iI (S.1 18 (k)))) rfl dX11_refuse_7 ?_
  have w_4 := wf_18 hwf (k)
  refine xi_iconst hx hb dX11_refuse_10 ?_
  refine xi_icmp_ne (tgt := 18) hx hb ⟨by omega, by omega⟩ ⟨by omega, by omega⟩ dX11_refuse_11 (by decide) (fun c_5 => ?_) (fun c_5 => ?_)
  · refine xi_iconst hx hb dX11_refuse_18 ?_
    exact xi_eq (z' := bI (decide (S.1 18 k = 1))) (bI_f (by simp only [c_5, decide_true, decide_false, Bool.true_and, Bool.and_true, Bool.false_and, Bool.and_false, Bool.true_or, Bool.or_true, Bool.false_or, Bool.or_false, Bool.not_true, Bool.not_false, eq_self])) (j_2 _ _ _ rfl hW)
  · refine xi_iconst hx hb dX11_refuse_14 ?_
    refine lv_goto (tgt := 19) hx hb dX11_refuse_15 (by decide) ?_
    exact xi_eq (z' := bI (decide (S.1 18 k = 1))) (bI_t (by simp only [c_5, decide_true, decide_false, Bool.true_and, Bool.and_true, Bool.false_and, Bool.and_false, Bool.true_or, Bool.or_true, Bool.false_or, Bool.or_false, Bool.not_true, Bool.not_false, eq_self])) (j_2 _ _ _ rfl hW)
