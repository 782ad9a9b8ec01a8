set_option maxHeartbeats 4000000 in
set_option maxRecDepth 100000 in
theorem c_X11_recall {l : Launch} {D : va_G} {cy : Nat → ClassId} {B0 : Nat} {ad bk : Nat → Nat} {S : ST} {I : Int → Bool} {cX qX : Int → Int64} {G : gF} (k : Int) (hwf : wf S) (h_k : rI k) (ho : okS S) (hlw : legW S) (he : S.1 31 0 + cNF S < 19900) (hG0 : G 50001 = none) (hG2 : G 50002 = none) (hG3 : G 50003 = none) (hP0 : nP S = 0 → ad 11 = D.1 21) (hE0 : nE S = 0 → bk 10 = D.1 21) (hfd : fd41 S) (hrc : recI S) (hsb : stab S) (hst : l.stackTraces = false) : gX l yX11_recall vX11_recall 13 297 D cy B0 [.ref (ad 0), .int (iI (k))] (kW cy ad bk S (I, cX, qX) G) (fun r g_ => (pRec S k).1 = 0 ∧ ∃ (ad2 bk2 : Nat → Nat) (I2 : Int → Bool) (c2 q2 : Int → Int64), ad2 0 = ad 0 ∧ (nP (pRec S k).2.2 = 0 → ad2 11 = D.1 21) ∧ (nE (pRec S k).2.2 = 0 → bk2 10 = D.1 21) ∧ r = some (.int (iI (pRec S k).2.1)) ∧ g_ = kW cy ad2 bk2 (pRec S k).2.2 (I2, c2, q2) G) (fun E_ => ((pRec S k).1 = 1 ∧ E_ = xIO) ∨ ((pRec S k).1 = 2 ∧ E_ = xIS)) (kTc (nE (pRec S k).2.2) - kTc (nE S) + 16) (kTs (nE (pRec S k).2.2) - kTs (nE S) + 400) := by
  refine g_startX (cc := cX11_recall) (maxL := 4) (ret := (some .int)) (by decide) rfl (Nat.le_of_ble_eq_true rfl) ?_
  intro p_ e_ s_ m_ be_ me_ co_ ls H locs K hr hlk hnm ht hK hW hl
  obtain ⟨hx, hb, hml, hown, hts⟩ := id K
  have hl : lv_has ls 4 [(0, .ref (ad 0)), (1, .int (iI (k)))] := hl
  have h80 := wf_8 hwf 0
  have h310 := wf_31 hwf 0
  refine lv_aload_n hx hb dX11_recall_0 rfl (lv_at hl 0 rfl) ?_
  refine lv_iload_n hx hb dX11_recall_1 rfl (lv_at hl 1 rfl) ?_
  refine g_xcallV (i := 100000 + 0) (As := [.int (iI (k))]) (rest := []) K (c_X11_needPayment (S := S) (k) hwf ⟨by omega, by omega⟩ hst) (cwV 1 hts gC_X11_143 rfl rfl rfl (by decide +kernel) ⟨Nat.le_of_ble_eq_true rfl, Nat.le_of_ble_eq_true rfl⟩) hK hW (kW_at rfl) rfl rfl hl.1 rfl (Nat.le_of_ble_eq_true rfl) dX11_recall_2 ⟨by dsimp only; omega, by dsimp only; omega⟩ (fun E_ ce_ q9_ H1 locs1 hE hW1 h1_ h2_ h3_ => g_outX ht hlk hW1 (fun _ _ h => h) (by obtain ⟨rfl, hE⟩ := hE; exact (Or.inl ⟨(show (pRec S k).1 = 1 from sGo_1 (a := okP S k) (b := okC S k) (d := true) (by have hE2 := hE; (try simp only [okC, okP, sIn, Bool.and_eq_true, Bool.or_eq_true, Bool.and_eq_false_iff, Bool.or_eq_false_iff, decide_eq_true_eq, decide_eq_false_iff_not, Bool.not_eq_true, Bool.not_eq_false, Bool.not_eq_true', Bool.not_eq_false', Bool.not_true, Bool.not_false, Bool.true_and, Bool.and_true, Bool.false_and, Bool.and_false, Bool.true_or, Bool.or_true, Bool.false_or, Bool.or_false] at hE2); simp only [okC, okP, sIn, Bool.and_eq_true, Bool.or_eq_true, Bool.and_eq_false_iff, Bool.or_eq_false_iff, decide_eq_true_eq, decide_eq_false_iff_not, Bool.not_eq_true, Bool.not_eq_false, Bool.not_eq_true', Bool.not_eq_false', Bool.not_true, Bool.not_false, Bool.true_and, Bool.and_true, Bool.false_and, Bool.and_false, Bool.true_or, Bool.or_true, Bool.false_or, Bool.or_false]; omega)), rfl⟩)) h1_ h2_ h3_ (by first | omega | (dsimp only; omega)) (by first | omega | (dsimp only; omega))) (fun v_ f_ H locs hp hW => ?_)
  obtain ⟨hq_1, hpv, hpe⟩ := hp
  rw [hpe] at hW
  have hpv : v_ = some (.ref (ad (1000 + 2 * (k).toNat))) := hpv
  subst hpv
  (try simp only [okC, okP, sIn, Bool.and_eq_true, Bool.or_eq_true, Bool.and_eq_false_iff, Bool.or_eq_false_iff, decide_eq_true_eq, decide_eq_false_iff_not, Bool.not_eq_true, Bool.not_eq_false, Bool.not_eq_true', Bool.not_eq_false', Bool.not_true, Bool.not_false, Bool.true_and, Bool.and_true, Bool.false_and, Bool.and_false, Bool.true_or, Bool.or_true, Bool.false_or, Bool.or_false] at hq_1)
  have hfd1 := hfd k (by omega) (by omega)
  have hrc1 := hrc k (by omega) (by omega)
  have h00 := wf_0 hwf 0
  have h411 := wf_41 hwf k
  refine lv_astore_n (lv' := [(2, .ref (ad (1000 + 2 * (k).toNat))), (0, .ref (ad 0)), (1, .int (iI (k)))]) hx hb dX11_recall_5 rfl hl (by decide) rfl (fun ls hl => ?_)
  refine lv_aload_n hx hb dX11_recall_6 rfl (lv_at hl 1 rfl) ?_
  refine g_get (ref := RX11) (T := TX11) (N := 1) (ci := 12) hx hb hts wsC_X11 hown hK hW (100000 + 0) (kW_at rfl) rfl 0 (by decide) (hts _ lC_X11_10) (fun x h => h) (v := .ref (ad 1)) rfl dX11_recall_7 ?_
  refine g_get (ref := RX6) (T := TX6) (N := 8) (ci := 7) hx hb hts wsC_X6 hown hK hW (100000 + 1) (kW_at rfl) rfl 0 (by decide) (hts _ lC_X11_71) (fun x h => h) (v := .ref (ad 2)) rfl dX11_recall_10 ?_
  refine g_get (ref := RX4) (T := TX4) (N := 2) (ci := 5) hx hb hts wsC_X4 hown hK hW (100000 + 2) (kW_at rfl) rfl 0 (by decide) (hts _ lC_X11_178) (fun x h => h) (v := .int (iI (S.1 0 (0)))) rfl dX11_recall_13 ?_
  have w_2 := wf_0 hwf (0)
  refine lv_istore_n (lv' := [(3, .int (iI (S.1 0 (0)))), (2, .ref (ad (1000 + 2 * (k).toNat))), (0, .ref (ad 0)), (1, .int (iI (k)))]) hx hb dX11_recall_16 rfl hl (by decide) rfl (fun ls hl => ?_)
  refine lv_aload_n hx hb dX11_recall_17 rfl (lv_at hl 1 rfl) ?_
  refine g_get (ref := RX7) (T := TX7) (N := 9) (ci := 8) hx hb hts wsC_X7 hown hK hW (100000 + (1000 + 2 * (k).toNat)) (kW_at (kC_pay hwf (by omega) (show (k) < S.1 8 0 from by omega))) rfl 2 (by decide) (hts _ lC_X11_161) (fun x h => h) (v := .int (iI (S.1 18 (k)))) rfl dX11_recall_18 ?_
  have w_3 := wf_18 hwf (k)
  refine xi_iconst hx hb dX11_recall_21 ?_
  have j_4 : ∀ (zJ : Bool) (H : Heap) (locs : List Loc), zJ = (decide (S.1 18 k = 4)) → gW D B0 s_ (kW cy ad bk S (I, cX, qX) G) H locs → W p_ l e_ { frames := 13, cells := kTc (nE (pRec S k).2.2) - kTc (nE S) + 16, slots := kTs (nE (pRec S k).2.2) - kTs (nE S) + 400, locals := 297 } s_ m_ ([.ref (ad 0), .int (iI (k))] : List Value).toArray be_ me_ co_ H locs (0 + 1) (0 + 6) (vx_MQ be_ (gQ D B0 (fun (r : Option Value) (g_ : gF) => (pRec S k).1 = 0 ∧ ∃ (ad2 bk2 : Nat → Nat) (I2 : Int → Bool) (c2 q2 : Int → Int64), ad2 0 = ad 0 ∧ (nP (pRec S k).2.2 = 0 → ad2 11 = D.1 21) ∧ (nE (pRec S k).2.2 = 0 → bk2 10 = D.1 21) ∧ r = some (.int (iI (pRec S k).2.1)) ∧ g_ = kW cy ad2 bk2 (pRec S k).2.2 (I2, c2, q2) G)) (gXC D B0 (kW cy ad bk S (I, cX, qX) G) (fun E_ : String => ((pRec S k).1 = 1 ∧ E_ = xIO) ∨ ((pRec S k).1 = 2 ∧ E_ = xIS))) ([.ref (ad 0), .int (iI (k))] : List Value).toArray s_ (kTc (nE (pRec S k).2.2) - kTc (nE S) + 16) (kTs (nE (pRec S k).2.2) - kTs (nE S) + 400) (fun q : Nat => B0 ≤ q)) (F0 m_ 30 ls [.int (iI (bI (zJ)))]) := by
    intro zJ H locs hzJ hW
    subst hzJ
    refine g_xcallS (As := [.int (iI (bI (decide (S.1 18 k = 4))))]) (rest := []) K (c_X11_needState (decide (S.1 18 k = 4)) hst) (va_cwS 1 hts gC_X11_92 rfl rfl rfl (by decide +kernel) ⟨Nat.le_of_ble_eq_true rfl, Nat.le_of_ble_eq_true rfl⟩) hK hW rfl hl.1 rfl (Nat.le_of_ble_eq_true rfl) dX11_recall_30 ⟨by dsimp only; omega, by dsimp only; omega⟩ (fun E_ ce_ q9_ H1 locs1 hE hW1 h1_ h2_ h3_ => g_outX ht hlk hW1 (fun _ _ h => h) (by obtain ⟨rfl, hE⟩ := hE; exact (Or.inr ⟨(show (pRec S k).1 = 2 from sGo_2 (a := okP S k) (b := okC S k) (d := true) (by (try simp only [okC, okP, sIn, Bool.and_eq_true, Bool.or_eq_true, Bool.and_eq_false_iff, Bool.or_eq_false_iff, decide_eq_true_eq, decide_eq_false_iff_not, Bool.not_eq_true, Bool.not_eq_false, Bool.not_eq_true', Bool.not_eq_false', Bool.not_true, Bool.not_false, Bool.true_and, Bool.and_true, Bool.false_and, Bool.and_false, Bool.true_or, Bool.or_true, Bool.false_or, Bool.or_false]); first | done | rfl | omega) (by have hE2 := hE; (try simp only [okC, okP, sIn, Bool.and_eq_true, Bool.or_eq_true, Bool.and_eq_false_iff, Bool.or_eq_false_iff, decide_eq_true_eq, decide_eq_false_iff_not, Bool.not_eq_true, Bool.not_eq_false, Bool.not_eq_true', Bool.not_eq_false', Bool.not_true, Bool.not_false, Bool.true_and, Bool.and_true, Bool.false_and, Bool.and_false, Bool.true_or, Bool.or_true, Bool.false_or, Bool.or_false] at hE2); simp only [okC, okP, sIn, Bool.and_eq_true, Bool.or_eq_true, Bool.and_eq_false_iff, Bool.or_eq_false_iff, decide_eq_true_eq, decide_eq_false_iff_not, Bool.not_eq_true, Bool.not_eq_false, Bool.not_eq_true', Bool.not_eq_false', Bool.not_true, Bool.not_false, Bool.true_and, Bool.and_true, Bool.false_and, Bool.and_false, Bool.true_or, Bool.or_true, Bool.false_or, Bool.or_false]; omega)), rfl⟩)) h1_ h2_ h3_ (by first | omega | (dsimp only; omega)) (by first | omega | (dsimp only; omega))) (fun v_ f_ H locs hp hW => ?_)
    obtain ⟨hq_5, hpv, hpe⟩ := hp
    rw [hpe] at hW
    subst hpv
    (try simp only [okC, okP, sIn, Bool.and_eq_true, Bool.or_eq_true, Bool.and_eq_false_iff, Bool.or_eq_false_iff, decide_eq_true_eq, decide_eq_false_iff_not, Bool.not_eq_true, Bool.not_eq_false, Bool.not_eq_true', Bool.not_eq_false', Bool.not_true, Bool.not_false, Bool.true_and, Bool.and_true, Bool.false_and, Bool.and_false, Bool.true_or, Bool.or_true, Bool.false_or, Bool.or_false] at hq_5)
    refine lv_iload_n hx hb dX11_recall_33 rfl (lv_at hl 0 rfl) ?_
    refine lv_aload_n hx hb dX11_recall_34 rfl (lv_at hl 1 rfl) ?_
    refine g_get (ref := RX7) (T := TX7) (N := 9) (ci := 8) hx hb hts wsC_X7 hown hK hW (100000 + (1000 + 2 * (k).toNat)) (kW_at (kC_pay hwf (by omega) (show (k) < S.1 8 0 from by omega))) rfl 6 (by decide) (hts _ lC_X11_181) (fun x h => h) (v := .int (iI (S.1 41 (k)))) rfl dX11_recall_35 ?_
    have w_6 := wf_41 hwf (k)
    refine xi_isub hx hb dX11_recall_38 ?_
    refine xi_iconst hx hb dX11_recall_39 ?_
    have j_7 : ∀ (zJ : Bool) (H : Heap) (locs : List Loc), zJ = (decide (S.1 0 0 - S.1 41 k ≤ 3)) → gW D B0 s_ (kW cy ad bk S (I, cX, qX) G) H locs → W p_ l e_ { frames := 13, cells := kTc (nE (pRec S k).2.2) - kTc (nE S) + 16, slots := kTs (nE (pRec S k).2.2) - kTs (nE S) + 400, locals := 297 } s_ m_ ([.ref (ad 0), .int (iI (k))] : List Value).toArray be_ me_ co_ H locs (0 + 1 + 1) (0 + 6 + 6) (vx_MQ be_ (gQ D B0 (fun (r : Option Value) (g_ : gF) => (pRec S k).1 = 0 ∧ ∃ (ad2 bk2 : Nat → Nat) (I2 : Int → Bool) (c2 q2 : Int → Int64), ad2 0 = ad 0 ∧ (nP (pRec S k).2.2 = 0 → ad2 11 = D.1 21) ∧ (nE (pRec S k).2.2 = 0 → bk2 10 = D.1 21) ∧ r = some (.int (iI (pRec S k).2.1)) ∧ g_ = kW cy ad2 bk2 (pRec S k).2.2 (I2, c2, q2) G)) (gXC D B0 (kW cy ad bk S (I, cX, qX) G) (fun E_ : String => ((pRec S k).1 = 1 ∧ E_ = xIO) ∨ ((pRec S k).1 = 2 ∧ E_ = xIS))) ([.ref (ad 0), .int (iI (k))] : List Value).toArray s_ (kTc (nE (pRec S k).2.2) - kTc (nE S) + 16) (kTs (nE (pRec S k).2.2) - kTs (nE S) + 400) (fun q : Nat => B0 ≤ q)) (F0 m_ 48 ls [.int (iI (bI (zJ)))]) := by
      intro zJ H locs hzJ hW
      subst hzJ
      refine g_xcallS (As := [.int (iI (bI (decide (S.1 0 0 - S.1 41 k ≤ 3))))]) (rest := []) K (c_X11_needState (decide (S.1 0 0 - S.1 41 k ≤ 3)) hst) (va_cwS 1 hts gC_X11_92 rfl rfl rfl (by decide +kernel) ⟨Nat.le_of_ble_eq_true rfl, Nat.le_of_ble_eq_true rfl⟩) hK hW rfl hl.1 rfl (Nat.le_of_ble_eq_true rfl) dX11_recall_48 ⟨by dsimp only; omega, by dsimp only; omega⟩ (fun E_ ce_ q9_ H1 locs1 hE hW1 h1_ h2_ h3_ => g_outX ht hlk hW1 (fun _ _ h => h) (by obtain ⟨rfl, hE⟩ := hE; exact (Or.inr ⟨(show (pRec S k).1 = 2 from sGo_2 (a := okP S k) (b := okC S k) (d := true) (by (try simp only [okC, okP, sIn, Bool.and_eq_true, Bool.or_eq_true, Bool.and_eq_false_iff, Bool.or_eq_false_iff, decide_eq_true_eq, decide_eq_false_iff_not, Bool.not_eq_true, Bool.not_eq_false, Bool.not_eq_true', Bool.not_eq_false', Bool.not_true, Bool.not_false, Bool.true_and, Bool.and_true, Bool.false_and, Bool.and_false, Bool.true_or, Bool.or_true, Bool.false_or, Bool.or_false]); first | done | rfl | omega) (by have hE2 := hE; (try simp only [okC, okP, sIn, Bool.and_eq_true, Bool.or_eq_true, Bool.and_eq_false_iff, Bool.or_eq_false_iff, decide_eq_true_eq, decide_eq_false_iff_not, Bool.not_eq_true, Bool.not_eq_false, Bool.not_eq_true', Bool.not_eq_false', Bool.not_true, Bool.not_false, Bool.true_and, Bool.and_true, Bool.false_and, Bool.and_false, Bool.true_or, Bool.or_true, Bool.false_or, Bool.or_false] at hE2); simp only [okC, okP, sIn, Bool.and_eq_true, Bool.or_eq_true, Bool.and_eq_false_iff, Bool.or_eq_false_iff, decide_eq_true_eq, decide_eq_false_iff_not, Bool.not_eq_true, Bool.not_eq_false, Bool.not_eq_true', Bool.not_eq_false', Bool.not_true, Bool.not_false, Bool.true_and, Bool.and_true, Bool.false_and, Bool.and_false, Bool.true_or, Bool.or_true, Bool.false_or, Bool.or_false]; omega)), rfl⟩)) h1_ h2_ h3_ (by first | omega | (dsimp only; omega)) (by first | omega | (dsimp only; omega))) (fun v_ f_ H locs hp hW => ?_)
      obtain ⟨hq_8, hpv, hpe⟩ := hp
      rw [hpe] at hW
      subst hpv
      (try simp only [okC, okP, sIn, Bool.and_eq_true, Bool.or_eq_true, Bool.and_eq_false_iff, Bool.or_eq_false_iff, decide_eq_true_eq, decide_eq_false_iff_not, Bool.not_eq_true, Bool.not_eq_false, Bool.not_eq_true', Bool.not_eq_false', Bool.not_true, Bool.not_false, Bool.true_and, Bool.and_true, Bool.false_and, Bool.and_false, Bool.true_or, Bool.or_true, Bool.false_or, Bool.or_false] at hq_8)
      refine lv_aload_n hx hb dX11_recall_51 rfl (lv_at hl 1 rfl) ?_
      refine g_get (ref := RX7) (T := TX7) (N := 9) (ci := 8) hx hb hts wsC_X7 hown hK hW (100000 + (1000 + 2 * (k).toNat)) (kW_at (kC_pay hwf (by omega) (show (k) < S.1 8 0 from by omega))) rfl 7 (by decide) (hts _ lC_X11_184) (fun x h => h) (v := .int (iI (S.1 42 (k)))) rfl dX11_recall_52 ?_
      have w_9 := wf_42 hwf (k)
      refine xi_iconst hx hb dX11_recall_55 ?_
      have j_10 : ∀ (zJ : Bool) (H : Heap) (locs : List Loc), zJ = (decide (S.1 42 k = -1)) → gW D B0 s_ (kW cy ad bk S (I, cX, qX) G) H locs → W p_ l e_ { frames := 13, cells := kTc (nE (pRec S k).2.2) - kTc (nE S) + 16, slots := kTs (nE (pRec S k).2.2) - kTs (nE S) + 400, locals := 297 } s_ m_ ([.ref (ad 0), .int (iI (k))] : List Value).toArray be_ me_ co_ H locs (0 + 1 + 1 + 1) (0 + 6 + 6 + 6) (vx_MQ be_ (gQ D B0 (fun (r : Option Value) (g_ : gF) => (pRec S k).1 = 0 ∧ ∃ (ad2 bk2 : Nat → Nat) (I2 : Int → Bool) (c2 q2 : Int → Int64), ad2 0 = ad 0 ∧ (nP (pRec S k).2.2 = 0 → ad2 11 = D.1 21) ∧ (nE (pRec S k).2.2 = 0 → bk2 10 = D.1 21) ∧ r = some (.int (iI (pRec S k).2.1)) ∧ g_ = kW cy ad2 bk2 (pRec S k).2.2 (I2, c2, q2) G)) (gXC D B0 (kW cy ad bk S (I, cX, qX) G) (fun E_ : String => ((pRec S k).1 = 1 ∧ E_ = xIO) ∨ ((pRec S k).1 = 2 ∧ E_ = xIS))) ([.ref (ad 0), .int (iI (k))] : List Value).toArray s_ (kTc (nE (pRec S k).2.2) - kTc (nE S) + 16) (kTs (nE (pRec S k).2.2) - kTs (nE S) + 400) (fun q : Nat => B0 ≤ q)) (F0 m_ 64 ls [.int (iI (bI (zJ)))]) := by
        intro zJ H locs hzJ hW
        subst hzJ
        refine g_xcallS (As := [.int (iI (bI (decide (S.1 42 k = -1))))]) (rest := []) K (c_X11_needState (decide (S.1 42 k = -1)) hst) (va_cwS 1 hts gC_X11_92 rfl rfl rfl (by decide +kernel) ⟨Nat.le_of_ble_eq_true rfl, Nat.le_of_ble_eq_true rfl⟩) hK hW rfl hl.1 rfl (Nat.le_of_ble_eq_true rfl) dX11_recall_64 ⟨by dsimp only; omega, by dsimp only; omega⟩ (fun E_ ce_ q9_ H1 locs1 hE hW1 h1_ h2_ h3_ => g_outX ht hlk hW1 (fun _ _ h => h) (by obtain ⟨rfl, hE⟩ := hE; exact (Or.inr ⟨(show (pRec S k).1 = 2 from sGo_2 (a := okP S k) (b := okC S k) (d := true) (by (try simp only [okC, okP, sIn, Bool.and_eq_true, Bool.or_eq_true, Bool.and_eq_false_iff, Bool.or_eq_false_iff, decide_eq_true_eq, decide_eq_false_iff_not, Bool.not_eq_true, Bool.not_eq_false, Bool.not_eq_true', Bool.not_eq_false', Bool.not_true, Bool.not_false, Bool.true_and, Bool.and_true, Bool.false_and, Bool.and_false, Bool.true_or, Bool.or_true, Bool.false_or, Bool.or_false]); first | done | rfl | omega) (by have hE2 := hE; (try simp only [okC, okP, sIn, Bool.and_eq_true, Bool.or_eq_true, Bool.and_eq_false_iff, Bool.or_eq_false_iff, decide_eq_true_eq, decide_eq_false_iff_not, Bool.not_eq_true, Bool.not_eq_false, Bool.not_eq_true', Bool.not_eq_false', Bool.not_true, Bool.not_false, Bool.true_and, Bool.and_true, Bool.false_and, Bool.and_false, Bool.true_or, Bool.or_true, Bool.false_or, Bool.or_false] at hE2); simp only [okC, okP, sIn, Bool.and_eq_true, Bool.or_eq_true, Bool.and_eq_false_iff, Bool.or_eq_false_iff, decide_eq_true_eq, decide_eq_false_iff_not, Bool.not_eq_true, Bool.not_eq_false, Bool.not_eq_true', Bool.not_eq_false', Bool.not_true, Bool.not_false, Bool.true_and, Bool.and_true, Bool.false_and, Bool.and_false, Bool.true_or, Bool.or_true, Bool.false_or, Bool.or_false]; omega)), rfl⟩)) h1_ h2_ h3_ (by first | omega | (dsimp only; omega)) (by first | omega | (dsimp only; omega))) (fun v_ f_ H locs hp hW => ?_)
        obtain ⟨hq_11, hpv, hpe⟩ := hp
        rw [hpe] at hW
        subst hpv
        (try simp only [okC, okP, sIn, Bool.and_eq_true, Bool.or_eq_true, Bool.and_eq_false_iff, Bool.or_eq_false_iff, decide_eq_true_eq, decide_eq_false_iff_not, Bool.not_eq_true, Bool.not_eq_false, Bool.not_eq_true', Bool.not_eq_false', Bool.not_true, Bool.not_false, Bool.true_and, Bool.and_true, Bool.false_and, Bool.and_false, Bool.true_or, Bool.or_true, Bool.false_or, Bool.or_false] at hq_11)
        refine lv_aload_n hx hb dX11_recall_67 rfl (lv_at hl 1 rfl) ?_
        refine lv_iload_n hx hb dX11_recall_68 rfl (lv_at hl 0 rfl) ?_
        refine xi_iconst hx hb dX11_recall_69 ?_
        refine xi_iadd hx hb dX11_recall_70 ?_
        refine g_put (ref := RX7) (T := TX7) (N := 9) (ci := 8) (ty := tyX7 7) (v := .int (iI ((S.1 0 (0)) + 2))) hx hb hts wsC_X7 tyX7 tyX7_ok nmX7 hown hK hW (100000 + (1000 + 2 * (k).toNat)) (kW_at (kC_pay hwf (by omega) (show (k) < S.1 8 0 from by omega))) rfl 7 (by decide) (hts _ lC_X11_184) (fun x h => h) rfl (by decide +kernel) rfl rfl (by simp [payF]) dX11_recall_71 (fun H locs hW => ?_)
        rw [kW_pay hwf (by omega) (show (k) < S.1 8 0 from by omega) (f := 42) (x := (S.1 0 (0)) + 2) rfl (by simp [payF, pI])] at hW
        refine lv_aload_n hx hb dX11_recall_74 rfl (lv_at hl 2 rfl) ?_
        refine g_get (ref := RX11) (T := TX11) (N := 1) (ci := 12) hx hb hts wsC_X11 hown hK hW (100000 + 0) (kW_at rfl) rfl 0 (by decide) (hts _ lC_X11_10) (fun x h => h) (v := .ref (ad 1)) rfl dX11_recall_75 ?_
        obtain ⟨T, hT⟩ : ∃ x : ST, x = (pI S 42 (k) ((S.1 0 (0)) + 2)) := ⟨_, rfl⟩
        rw [← hT] at hW
        have hRo : okS T := by rw [hT]; exact okS_pI ho _ _ (by decide) (by simp only [rLo, rHi]; omega)
        have hT8 : T.1 8 = S.1 8 := by rw [hT]; exact pI_f _ _ _ (by decide)
        have hT21 : T.1 21 = S.1 21 := by rw [hT]; exact pI_f _ _ _ (by decide)
        have hTe : T.1 31 0 + cNF T ≤ S.1 31 0 + cNF S + 1 := by rw [hT, pI_f _ _ _ (by decide), cNF_pI (by decide)]; omega
        have hTn : nE T = nE S := nE_f (by rw [hT]; exact pI_f _ _ _ (by decide))
        have hTc1 : kTc (nE T) = kTc (nE S) := by rw [hTn]
        have hTc2 : kTs (nE T) = kTs (nE S) := by rw [hTn]
        have hRb : nE T = 0 → bk 10 = D.1 21 := fun h => hE0 (by rw [← hTn]; exact h)
        have hRl : legW T := legW_of (congrFun hT8 0) hT21 hlw
        have hRe : T.1 31 0 + cNF T < 20000 := by omega
        have hRr := (sRuns_ok hRo).1
        have hRn := rdP_n hRo.1 (rdP_runs hRo)
        have hNP : nP (sRuns T).2 = nP S := (nP_runs hRo).trans (by unfold nP; rw [hT8])
        have t1 := kTc_le (show nE T ≤ nE (sRuns T).2 by omega)
        have t2 := kTs_le (show nE T ≤ nE (sRuns T).2 by omega)
        have hTs : stab T := by rw [hT]; exact stab_q (qEq_pI S k _ (by omega)) hsb
        have hsr : sRuns T = (0, T) := stab_runs hTs
        have hcA : (okP S k) = true := (by (try simp only [okC, okP, sIn, Bool.and_eq_true, Bool.or_eq_true, Bool.and_eq_false_iff, Bool.or_eq_false_iff, decide_eq_true_eq, decide_eq_false_iff_not, Bool.not_eq_true, Bool.not_eq_false, Bool.not_eq_true', Bool.not_eq_false', Bool.not_true, Bool.not_false, Bool.true_and, Bool.and_true, Bool.false_and, Bool.and_false, Bool.true_or, Bool.or_true, Bool.false_or, Bool.or_false]); first | done | rfl | omega)
        have hcB : (okC S k) = true := (by (try simp only [okC, okP, sIn, Bool.and_eq_true, Bool.or_eq_true, Bool.and_eq_false_iff, Bool.or_eq_false_iff, decide_eq_true_eq, decide_eq_false_iff_not, Bool.not_eq_true, Bool.not_eq_false, Bool.not_eq_true', Bool.not_eq_false', Bool.not_true, Bool.not_false, Bool.true_and, Bool.and_true, Bool.false_and, Bool.and_false, Bool.true_or, Bool.or_true, Bool.false_or, Bool.or_false]); first | done | rfl | omega)
        have hcC : (true) = true := (by (try simp only [okC, okP, sIn, Bool.and_eq_true, Bool.or_eq_true, Bool.and_eq_false_iff, Bool.or_eq_false_iff, decide_eq_true_eq, decide_eq_false_iff_not, Bool.not_eq_true, Bool.not_eq_false, Bool.not_eq_true', Bool.not_eq_false', Bool.not_true, Bool.not_false, Bool.true_and, Bool.and_true, Bool.false_and, Bool.and_false, Bool.true_or, Bool.or_true, Bool.false_or, Bool.or_false]); first | done | rfl | omega)
        have hsp : pRec S k = (0, S.1 0 0 + 2, pI (pI S 23 k (S.1 0 0)) 42 k (S.1 0 0 + 2)) := by unfold pRec; rw [sGo_00 hcA hcB hcC, if_pos (show ((okP S k) && (okC S k) && (true)) = true by rw [hcA, hcB, hcC]; rfl)]
        have hM1 : kTc (nE ((pRec S k).2.2)) = kTc (nE S) := by rw [hsp]; rfl
        have hM2 : kTs (nE ((pRec S k).2.2)) = kTs (nE S) := by rw [hsp]; rfl
        have hR1 : kTc (nE (sRuns T).2) = kTc (nE S) := by rw [hsr]; exact hTc1
        have hR2 : kTs (nE (sRuns T).2) = kTs (nE S) := by rw [hsr]; exact hTc2
        refine g_callV (i := 100000 + 1) (As := []) (rest := []) K (c_X6_runQueues (S := T) hRo.1 hRo hRl hRe hG0 hRb) (cwV 0 hts gC_X11_35 rfl rfl rfl (by decide +kernel) ⟨Nat.le_of_ble_eq_true rfl, Nat.le_of_ble_eq_true rfl⟩) hK hW (kW_at rfl) rfl rfl hl.1 rfl (Nat.le_of_ble_eq_true rfl) dX11_recall_78 ⟨by dsimp only; omega, by dsimp only; omega⟩ (fun v_ f_ H locs hp hW => ?_)
        obtain ⟨bk9, I9, c9, q9, hpv, hb9, hpe⟩ := hp
        rw [hpe] at hW
        subst hpv
        rw [hsr] at hW hb9
        refine lv_pop hx hb dX11_recall_81 rfl ?_
        refine lv_aload_n hx hb dX11_recall_82 rfl (lv_at hl 1 rfl) ?_
        refine g_get (ref := RX7) (T := TX7) (N := 9) (ci := 8) hx hb hts wsC_X7 hown hK hW (100000 + (1000 + 2 * (k).toNat)) (kW_at (kC_pay (hRo.1) (by omega) (show (k) < T.1 8 0 from (by rw [hT8]; omega)))) rfl 7 (by decide) (hts _ lC_X11_184) (fun x h => h) (v := .int (iI (T.1 42 (k)))) rfl dX11_recall_83 ?_
        have w_12 := wf_42 hRo.1 (k)
        refine xi_eq (z' := S.1 0 0 + 2) (by rw [hT, pI_s]) ?_
        skip
        exact W.widen (by first | omega | (dsimp only; omega)) (by first | omega | (dsimp only; omega)) (vx_ret (g_iret hx hb hr hW ⟨by rw [hsp], ad, bk9, I9, c9, q9, rfl, fun h => hP0 (by rw [hsp] at h; exact h), fun h => hb9 (by rw [hTn]; rw [hsp] at h; exact h), by rw [hsp], by rw [hsp, hT]; exact (kW_eqv (rec_eqv S k (S.1 0 0) _)).symm⟩ dX11_recall_86 hlk))
      refine xi_icmp_ne (tgt := 63) hx hb ⟨by omega, by omega⟩ ⟨by omega, by omega⟩ dX11_recall_56 (by decide) (fun c_13 => ?_) (fun c_13 => ?_)
      · refine xi_iconst hx hb dX11_recall_63 ?_
        exact xi_eq (z' := bI (decide (S.1 42 k = -1))) (bI_f (by simp only [c_13, decide_true, decide_false, Bool.true_and, Bool.and_true, Bool.false_and, Bool.and_false, Bool.true_or, Bool.or_true, Bool.false_or, Bool.or_false, Bool.not_true, Bool.not_false, eq_self])) (j_10 _ _ _ rfl hW)
      · refine xi_iconst hx hb dX11_recall_59 ?_
        refine lv_goto (tgt := 64) hx hb dX11_recall_60 (by decide) ?_
        exact xi_eq (z' := bI (decide (S.1 42 k = -1))) (bI_t (by simp only [c_13, decide_true, decide_false, Bool.true_and, Bool.and_true, Bool.false_and, Bool.and_false, Bool.true_or, Bool.or_true, Bool.false_or, Bool.or_false, Bool.not_true, Bool.not_false, eq_self])) (j_10 _ _ _ rfl hW)
    refine xi_icmp_gt (tgt := 47) hx hb ⟨by omega, by omega⟩ ⟨by omega, by omega⟩ dX11_recall_40 (by decide) (fun c_14 => ?_) (fun c_14 => ?_)
    · refine xi_iconst hx hb dX11_recall_47 ?_
      exact xi_eq (z' := bI (decide (S.1 0 0 - S.1 41 k ≤ 3))) (bI_f (by simp only [c_14, Int.not_le.mpr c_14, decide_true, decide_false, Bool.true_and, Bool.and_true, Bool.false_and, Bool.and_false, Bool.true_or, Bool.or_true, Bool.false_or, Bool.or_false, Bool.not_true, Bool.not_false, eq_self])) (j_7 _ _ _ rfl hW)
    · refine xi_iconst hx hb dX11_recall_43 ?_
      refine lv_goto (tgt := 48) hx hb dX11_recall_44 (by decide) ?_
      exact xi_eq (z' := bI (decide (S.1 0 0 - S.1 41 k ≤ 3))) (bI_t (by simp only [c_14, Int.not_lt.mpr c_14, decide_true, decide_false, Bool.true_and, Bool.and_true, Bool.false_and, Bool.and_false, Bool.true_or, Bool.or_true, Bool.false_or, Bool.or_false, Bool.not_true, Bool.not_false, eq_self])) (j_7 _ _ _ rfl hW)
  refine xi_icmp_ne (tgt := 29) hx hb ⟨by omega, by omega⟩ ⟨by omega, by omega⟩ dX11_recall_22 (by decide) (fun c_15 => ?_) (fun c_15 => ?_)
  · refine xi_iconst hx hb dX11_recall_29 ?_
    exact xi_eq (z' := bI (decide (S.1 18 k = 4))) (bI_f (by simp only [c_15, decide_true, decide_false, Bool.true_and, Bool.and_true, Bool.false_and, Bool.and_false, Bool.true_or, Bool.or_true, Bool.false_or, Bool.or_false, Bool.not_true, Bool.not_false, eq_self])) (j_4 _ _ _ rfl hW)
  · refine xi_iconst hx hb dX11_recall_25 ?_
    refine lv_goto (tgt := 30) hx hb dX11_recall_26 (by decide) ?_
    exact xi_eq (z' := bI (decide (S.1 18 k = 4))) (bI_t (by simp only [c_15, decide_true, decide_false, Bool.true_and, Bool.and_true, Bool.false_and, Bool.and_false, Bool.true_or, Bool.or_true, Bool.false_or, Bool.or_false, Bool.not_true, Bool.not_false, eq_self])) (j_4 _ _ _ rfl hW)
set_option maxHeartbeats 4000000 in
set_option maxRecDepth 100000 in
theorem c_X11_release {l : Launch} {D : va_G} {cy : Nat → ClassId} {B0 : Nat} {ad bk : Nat → Nat} {S : ST} {I : Int → Bool} {cX qX : Int → Int64} {G : gF} (k : Int) (y : Int) (hwf : wf S) (h_k : rI k) (h_y : rI y) (ho : okS S) (hlw : legW S) (he : S.1 31 0 + cNF S < 19900) (hG0 : G 50001 = none) (hG2 : G 50002 = none) (hG3 : G 50003 = none) (hP0 : nP S = 0 → ad 11 = D.1 21) (hE0 : nE S = 0 → bk 10 = D.1 21) (hre : relI S) (hsb : stab S) (hst : l.stackTraces = false) : gX l yX11_release vX11_release 13 297 D cy B0 [.ref (ad 0), .int (iI (k)), .int (iI (y))] (kW cy ad bk S (I, cX, qX) G) (fun r g_ => (pRel S k y).1 = 0 ∧ ∃ (ad2 bk2 : Nat → Nat) (I2 : Int → Bool) (c2 q2 : Int → Int64), ad2 0 = ad 0 ∧ (nP (pRel S k y).2.2 = 0 → ad2 11 = D.1 21) ∧ (nE (pRel S k y).2.2 = 0 → bk2 10 = D.1 21) ∧ r = some (.int (iI (pRel S k y).2.1)) ∧ g_ = kW cy ad2 bk2 (pRel S k y).2.2 (I2, c2, q2) G) (fun E_ => ((pRel S k y).1 = 1 ∧ E_ = xIO) ∨ ((pRel S k y).1 = 2 ∧ E_ = xIS)) (kTc (nE (pRel S k y).2.2) - kTc (nE S) + 16) (kTs (nE (pRel S k y).2.2) - kTs (nE S) + 400) := by
  refine g_startX (cc := cX11_release) (maxL := 5) (ret := (some .boolean)) (by decide) rfl (Nat.le_of_ble_eq_true rfl) ?_
  intro p_ e_ s_ m_ be_ me_ co_ ls H locs K hr hlk hnm ht hK hW hl
  obtain ⟨hx, hb, hml, hown, hts⟩ := id K
  have hl : lv_has ls 5 [(0, .ref (ad 0)), (1, .int (iI (k))), (2, .int (iI (y)))] := hl
  have h80 := wf_8 hwf 0
  have h310 := wf_31 hwf 0
  refine lv_aload_n hx hb dX11_release_0 rfl (lv_at hl 0 rfl) ?_
  refine lv_iload_n hx hb dX11_release_1 rfl (lv_at hl 1 rfl) ?_
  refine g_xcallV (i := 100000 + 0) (As := [.int (iI (k))]) (rest := []) K (c_X11_needPayment (S := S) (k) hwf ⟨by omega, by omega⟩ hst) (cwV 1 hts gC_X11_143 rfl rfl rfl (by decide +kernel) ⟨Nat.le_of_ble_eq_true rfl, Nat.le_of_ble_eq_true rfl⟩) hK hW (kW_at rfl) rfl rfl hl.1 rfl (Nat.le_of_ble_eq_true rfl) dX11_release_2 ⟨by dsimp only; omega, by dsimp only; omega⟩ (fun E_ ce_ q9_ H1 locs1 hE hW1 h1_ h2_ h3_ => g_outX ht hlk hW1 (fun _ _ h => h) (by obtain ⟨rfl, hE⟩ := hE; exact (Or.inl ⟨(show (pRel S k y).1 = 1 from sGo_1 (a := okR1 S k y) (b := okR2 S k y) (d := true) (by have hE2 := hE; (try simp only [okR1, okR2, okP, sIn, Bool.and_eq_true, Bool.or_eq_true, Bool.and_eq_false_iff, Bool.or_eq_false_iff, decide_eq_true_eq, decide_eq_false_iff_not, Bool.not_eq_true, Bool.not_eq_false, Bool.not_eq_true', Bool.not_eq_false', Bool.not_true, Bool.not_false, Bool.true_and, Bool.and_true, Bool.false_and, Bool.and_false, Bool.true_or, Bool.or_true, Bool.false_or, Bool.or_false] at hE2); simp only [okR1, okR2, okP, sIn, Bool.and_eq_true, Bool.or_eq_true, Bool.and_eq_false_iff, Bool.or_eq_false_iff, decide_eq_true_eq, decide_eq_false_iff_not, Bool.not_eq_true, Bool.not_eq_false, Bool.not_eq_true', Bool.not_eq_false', Bool.not_true, Bool.not_false, Bool.true_and, Bool.and_true, Bool.false_and, Bool.and_false, Bool.true_or, Bool.or_true, Bool.false_or, Bool.or_false]; omega)), rfl⟩)) h1_ h2_ h3_ (by first | omega | (dsimp only; omega)) (by first | omega | (dsimp only; omega))) (fun v_ f_ H locs hp hW => ?_)
  obtain ⟨hq_1, hpv, hpe⟩ := hp
  rw [hpe] at hW
  have hpv : v_ = some (.ref (ad (1000 + 2 * (k).toNat))) := hpv
  subst hpv
  (try simp only [okR1, okR2, okP, sIn, Bool.and_eq_true, Bool.or_eq_true, Bool.and_eq_false_iff, Bool.or_eq_false_iff, decide_eq_true_eq, decide_eq_false_iff_not, Bool.not_eq_true, Bool.not_eq_false, Bool.not_eq_true', Bool.not_eq_false', Bool.not_true, Bool.not_false, Bool.true_and, Bool.and_true, Bool.false_and, Bool.and_false, Bool.true_or, Bool.or_true, Bool.false_or, Bool.or_false] at hq_1)
  have hre1 := hre k (by omega) (by omega)
  refine lv_astore_n (lv' := [(3, .ref (ad (1000 + 2 * (k).toNat))), (0, .ref (ad 0)), (1, .int (iI (k))), (2, .int (iI (y)))]) hx hb dX11_release_5 rfl hl (by decide) rfl (fun ls hl => ?_)
  refine lv_iload_n hx hb dX11_release_6 rfl (lv_at hl 3 rfl) ?_
  refine xi_iconst hx hb dX11_release_7 ?_
  refine g_xcallS (As := [.int (iI (y)), .int (iI (4))]) (rest := []) K (c_X11_needPlace (y) (4) ⟨by omega, by omega⟩ ⟨by omega, by omega⟩ hst) (va_cwS 2 hts gC_X11_16 rfl rfl rfl (by decide +kernel) ⟨Nat.le_of_ble_eq_true rfl, Nat.le_of_ble_eq_true rfl⟩) hK hW rfl hl.1 rfl (Nat.le_of_ble_eq_true rfl) dX11_release_8 ⟨by dsimp only; omega, by dsimp only; omega⟩ (fun E_ ce_ q9_ H1 locs1 hE hW1 h1_ h2_ h3_ => g_outX ht hlk hW1 (fun _ _ h => h) (by obtain ⟨rfl, hE⟩ := hE; exact (Or.inl ⟨(show (pRel S k y).1 = 1 from sGo_1 (a := okR1 S k y) (b := okR2 S k y) (d := true) (by have hE2 := hE; (try simp only [okR1, okR2, okP, sIn, Bool.and_eq_true, Bool.or_eq_true, Bool.and_eq_false_iff, Bool.or_eq_false_iff, decide_eq_true_eq, decide_eq_false_iff_not, Bool.not_eq_true, Bool.not_eq_false, Bool.not_eq_true', Bool.not_eq_false', Bool.not_true, Bool.not_false, Bool.true_and, Bool.and_true, Bool.false_and, Bool.and_false, Bool.true_or, Bool.or_true, Bool.false_or, Bool.or_false] at hE2); simp only [okR1, okR2, okP, sIn, Bool.and_eq_true, Bool.or_eq_true, Bool.and_eq_false_iff, Bool.or_eq_false_iff, decide_eq_true_eq, decide_eq_false_iff_not, Bool.not_eq_true, Bool.not_eq_false, Bool.not_eq_true', Bool.not_eq_false', Bool.not_true, Bool.not_false, Bool.true_and, Bool.and_true, Bool.false_and, Bool.and_false, Bool.true_or, Bool.or_true, Bool.false_or, Bool.or_false]; omega)), rfl⟩)) h1_ h2_ h3_ (by first | omega | (dsimp only; omega)) (by first | omega | (dsimp only; omega))) (fun v_ f_ H locs hp hW => ?_)
  obtain ⟨hq_2, hpv, hpe⟩ := hp
  rw [hpe] at hW
  subst hpv
  (try simp only [okR1, okR2, okP, sIn, Bool.and_eq_true, Bool.or_eq_true, Bool.and_eq_false_iff, Bool.or_eq_false_iff, decide_eq_true_eq, decide_eq_false_iff_not, Bool.not_eq_true, Bool.not_eq_false, Bool.not_eq_true', Bool.not_eq_false', Bool.not_true, Bool.not_false, Bool.true_and, Bool.and_true, Bool.false_and, Bool.and_false, Bool.true_or, Bool.or_true, Bool.false_or, Bool.or_false] at hq_2)
  refine lv_aload_n hx hb dX11_release_11 rfl (lv_at hl 0 rfl) ?_
  refine g_get (ref := RX7) (T := TX7) (N := 9) (ci := 8) hx hb hts wsC_X7 hown hK hW (100000 + (1000 + 2 * (k).toNat)) (kW_at (kC_pay hwf (by omega) (show (k) < S.1 8 0 from by omega))) rfl 2 (by decide) (hts _ lC_X11_161) (fun x h => h) (v := .int (iI (S.1 18 (k)))) rfl dX11_release_12 ?_
  have w_3 := wf_18 hwf (k)
  refine xi_iconst hx hb dX11_release_15 ?_
  have j_4 : ∀ (zJ : Bool) (H : Heap) (locs : List Loc), zJ = (decide (S.1 18 k = 1) && !decide (S.1 40 k = y)) → gW D B0 s_ (kW cy ad bk S (I, cX, qX) G) H locs → W p_ l e_ { frames := 13, cells := kTc (nE (pRel S k y).2.2) - kTc (nE S) + 16, slots := kTs (nE (pRel S k y).2.2) - kTs (nE S) + 400, locals := 297 } s_ m_ ([.ref (ad 0), .int (iI (k)), .int (iI (y))] : List Value).toArray be_ me_ co_ H locs (0 + 1 + 1) (0 + 6 + 6) (vx_MQ be_ (gQ D B0 (fun (r : Option Value) (g_ : gF) => (pRel S k y).1 = 0 ∧ ∃ (ad2 bk2 : Nat → Nat) (I2 : Int → Bool) (c2 q2 : Int → Int64), ad2 0 = ad 0 ∧ (nP (pRel S k y).2.2 = 0 → ad2 11 = D.1 21) ∧ (nE (pRel S k y).2.2 = 0 → bk2 10 = D.1 21) ∧ r = some (.int (iI (pRel S k y).2.1)) ∧ g_ = kW cy ad2 bk2 (pRel S k y).2.2 (I2, c2, q2) G)) (gXC D B0 (kW cy ad bk S (I, cX, qX) G) (fun E_ : String => ((pRel S k y).1 = 1 ∧ E_ = xIO) ∨ ((pRel S k y).1 = 2 ∧ E_ = xIS))) ([.ref (ad 0), .int (iI (k)), .int (iI (y))] : List Value).toArray s_ (kTc (nE (pRel S k y).2.2) - kTc (nE S) + 16) (kTs (nE (pRel S k y).2.2) - kTs (nE S) + 400) (fun q : Nat => B0 ≤ q)) (F0 m_ 32 ls [.int (iI (bI (zJ)))]) := by
    intro zJ H locs hzJ hW
    subst hzJ
    refine g_xcallS (As := [.int (iI (bI (decide (S.1 18 k = 1) && !decide (S.1 40 k = y))))]) (rest := []) K (c_X11_needState (decide (S.1 18 k = 1) && !decide (S.1 40 k = y)) hst) (va_cwS 1 hts gC_X11_92 rfl rfl rfl (by decide +kernel) ⟨Nat.le_of_ble_eq_true rfl, Nat.le_of_ble_eq_true rfl⟩) hK hW rfl hl.1 rfl (Nat.le_of_ble_eq_true rfl) dX11_release_32 ⟨by dsimp only; omega, by dsimp only; omega⟩ (fun E_ ce_ q9_ H1 locs1 hE hW1 h1_ h2_ h3_ => g_outX ht hlk hW1 (fun _ _ h => h) (by obtain ⟨rfl, hE⟩ := hE; exact (Or.inr ⟨(show (pRel S k y).1 = 2 from sGo_2 (a := okR1 S k y) (b := okR2 S k y) (d := true) (by (try simp only [okR1, okR2, okP, sIn, Bool.and_eq_true, Bool.or_eq_true, Bool.and_eq_false_iff, Bool.or_eq_false_iff, decide_eq_true_eq, decide_eq_false_iff_not, Bool.not_eq_true, Bool.not_eq_false, Bool.not_eq_true', Bool.not_eq_false', Bool.not_true, Bool.not_false, Bool.true_and, Bool.and_true, Bool.false_and, Bool.and_false, Bool.true_or, Bool.or_true, Bool.false_or, Bool.or_false]); first | done | rfl | omega) (by have hE2 := hE; (try simp only [okR1, okR2, okP, sIn, Bool.and_eq_true, Bool.or_eq_true, Bool.and_eq_false_iff, Bool.or_eq_false_iff, decide_eq_true_eq, decide_eq_false_iff_not, Bool.not_eq_true, Bool.not_eq_false, Bool.not_eq_true', Bool.not_eq_false', Bool.not_true, Bool.not_false, Bool.true_and, Bool.and_true, Bool.false_and, Bool.and_false, Bool.true_or, Bool.or_true, Bool.false_or, Bool.or_false] at hE2); simp only [okR1, okR2, okP, sIn, Bool.and_eq_true, Bool.or_eq_true, Bool.and_eq_false_iff, Bool.or_eq_false_iff, decide_eq_true_eq, decide_eq_false_iff_not, Bool.not_eq_true, Bool.not_eq_false, Bool.not_eq_true', Bool.not_eq_false', Bool.not_true, Bool.not_false, Bool.true_and, Bool.and_true, Bool.false_and, Bool.and_false, Bool.true_or, Bool.or_true, Bool.false_or, Bool.or_false]; omega)), rfl⟩)) h1_ h2_ h3_ (by first | omega | (dsimp only; omega)) (by first | omega | (dsimp only; omega))) (fun v_ f_ H locs hp hW => ?_)
    obtain ⟨hq_5, hpv, hpe⟩ := hp
    rw [hpe] at hW
    subst hpv
    (try simp only [okR1, okR2, okP, sIn, Bool.and_eq_true, Bool.or_eq_true, Bool.and_eq_false_iff, Bool.or_eq_false_iff, decide_eq_true_eq, decide_eq_false_iff_not, Bool.not_eq_true, Bool.not_eq_false, Bool.not_eq_true', Bool.not_eq_false', Bool.not_true, Bool.not_false, Bool.true_and, Bool.and_true, Bool.false_and, Bool.and_false, Bool.true_or, Bool.or_true, Bool.false_or, Bool.or_false] at hq_5)
    refine lv_aload_n hx hb dX11_release_35 rfl (lv_at hl 0 rfl) ?_
    refine g_get (ref := RX7) (T := TX7) (N := 9) (ci := 8) hx hb hts wsC_X7 hown hK hW (100000 + (1000 + 2 * (k).toNat)) (kW_at (kC_pay hwf (by omega) (show (k) < S.1 8 0 from by omega))) rfl 4 (by decide) (hts _ lC_X11_164) (fun x h => h) (v := .int (iI (S.1 40 (k)))) rfl dX11_release_36 ?_
    have w_6 := wf_40 hwf (k)
    refine xi_iconst hx hb dX11_release_39 ?_
    have j_7 : ∀ (zJ : Bool) (H : Heap) (locs : List Loc), zJ = (!decide (S.1 40 k = -1)) → gW D B0 s_ (kW cy ad bk S (I, cX, qX) G) H locs → W p_ l e_ { frames := 13, cells := kTc (nE (pRel S k y).2.2) - kTc (nE S) + 16, slots := kTs (nE (pRel S k y).2.2) - kTs (nE S) + 400, locals := 297 } s_ m_ ([.ref (ad 0), .int (iI (k)), .int (iI (y))] : List Value).toArray be_ me_ co_ H locs (0 + 1 + 1 + 1) (0 + 6 + 6 + 6) (vx_MQ be_ (gQ D B0 (fun (r : Option Value) (g_ : gF) => (pRel S k y).1 = 0 ∧ ∃ (ad2 bk2 : Nat → Nat) (I2 : Int → Bool) (c2 q2 : Int → Int64), ad2 0 = ad 0 ∧ (nP (pRel S k y).2.2 = 0 → ad2 11 = D.1 21) ∧ (nE (pRel S k y).2.2 = 0 → bk2 10 = D.1 21) ∧ r = some (.int (iI (pRel S k y).2.1)) ∧ g_ = kW cy ad2 bk2 (pRel S k y).2.2 (I2, c2, q2) G)) (gXC D B0 (kW cy ad bk S (I, cX, qX) G) (fun E_ : String => ((pRel S k y).1 = 1 ∧ E_ = xIO) ∨ ((pRel S k y).1 = 2 ∧ E_ = xIS))) ([.ref (ad 0), .int (iI (k)), .int (iI (y))] : List Value).toArray s_ (kTc (nE (pRel S k y).2.2) - kTc (nE S) + 16) (kTs (nE (pRel S k y).2.2) - kTs (nE S) + 400) (fun q : Nat => B0 ≤ q)) (F0 m_ 48 ls [.int (iI (bI (zJ)))]) := by
      intro zJ H locs hzJ hW
      subst hzJ
      refine lv_istore (lv' := [(4, .int (iI (bI (!decide (S.1 40 k = -1))))), (3, .ref (ad (1000 + 2 * (k).toNat))), (0, .ref (ad 0)), (1, .int (iI (k))), (2, .int (iI (y)))]) hx hb dX11_release_48 hl (by decide) rfl (fun ls hl => ?_)
      refine lv_aload_n hx hb dX11_release_50 rfl (lv_at hl 1 rfl) ?_
      refine lv_iload_n hx hb dX11_release_51 rfl (lv_at hl 4 rfl) ?_
      refine g_put (ref := RX7) (T := TX7) (N := 9) (ci := 8) (ty := tyX7 4) (v := .int (iI (y))) hx hb hts wsC_X7 tyX7 tyX7_ok nmX7 hown hK hW (100000 + (1000 + 2 * (k).toNat)) (kW_at (kC_pay hwf (by omega) (show (k) < S.1 8 0 from by omega))) rfl 4 (by decide) (hts _ lC_X11_164) (fun x h => h) rfl (by decide +kernel) rfl rfl (by simp [payF]) dX11_release_52 (fun H locs hW => ?_)
      rw [kW_pay hwf (by omega) (show (k) < S.1 8 0 from by omega) (f := 40) (x := y) rfl (by simp [payF, pI])] at hW
      refine lv_iload hx hb dX11_release_55 (lv_at hl 0 rfl) ?_
      refine xi_ifb_eq (tgt := 73) hx hb dX11_release_57 (by decide) (fun c_8 => ?_) (fun c_8 => ?_)
      · refine lv_aload_n hx hb dX11_release_73 rfl (lv_at hl 2 rfl) ?_
        refine g_get (ref := RX11) (T := TX11) (N := 1) (ci := 12) hx hb hts wsC_X11 hown hK hW (100000 + 0) (kW_at rfl) rfl 0 (by decide) (hts _ lC_X11_10) (fun x h => h) (v := .ref (ad 1)) rfl dX11_release_74 ?_
        obtain ⟨T, hT⟩ : ∃ x : ST, x = (pI S 40 (k) (y)) := ⟨_, rfl⟩
        rw [← hT] at hW
        have hRo : okS T := by rw [hT]; exact okS_pI ho _ _ (by decide) (by simp only [rLo, rHi]; omega)
        have hT8 : T.1 8 = S.1 8 := by rw [hT]; exact pI_f _ _ _ (by decide)
        have hT21 : T.1 21 = S.1 21 := by rw [hT]; exact pI_f _ _ _ (by decide)
        have hTe : T.1 31 0 + cNF T ≤ S.1 31 0 + cNF S + 1 := by rw [hT, pI_f _ _ _ (by decide), cNF_pI (by decide)]; omega
        have hTn : nE T = nE S := nE_f (by rw [hT]; exact pI_f _ _ _ (by decide))
        have hTc1 : kTc (nE T) = kTc (nE S) := by rw [hTn]
        have hTc2 : kTs (nE T) = kTs (nE S) := by rw [hTn]
        have hRb : nE T = 0 → bk 10 = D.1 21 := fun h => hE0 (by rw [← hTn]; exact h)
        have hRl : legW T := legW_of (congrFun hT8 0) hT21 hlw
        have hRe : T.1 31 0 + cNF T < 20000 := by omega
        have hRr := (sRuns_ok hRo).1
        have hRn := rdP_n hRo.1 (rdP_runs hRo)
        have hNP : nP (sRuns T).2 = nP S := (nP_runs hRo).trans (by unfold nP; rw [hT8])
        have t1 := kTc_le (show nE T ≤ nE (sRuns T).2 by omega)
        have t2 := kTs_le (show nE T ≤ nE (sRuns T).2 by omega)
        have h20 : S.1 20 k = -1 := by simp only [Bool.not_eq_false', decide_eq_true_eq] at c_8; omega
        have hTs : stab T := by rw [hT]; exact stab_q (qEq_pI S k _ (by omega)) hsb
        have hsr : sRuns T = (0, T) := stab_runs hTs
        have hcA : (okR1 S k y) = true := (by (try simp only [okR1, okR2, okP, sIn, Bool.and_eq_true, Bool.or_eq_true, Bool.and_eq_false_iff, Bool.or_eq_false_iff, decide_eq_true_eq, decide_eq_false_iff_not, Bool.not_eq_true, Bool.not_eq_false, Bool.not_eq_true', Bool.not_eq_false', Bool.not_true, Bool.not_false, Bool.true_and, Bool.and_true, Bool.false_and, Bool.and_false, Bool.true_or, Bool.or_true, Bool.false_or, Bool.or_false]); first | done | rfl | omega)
        have hcB : (okR2 S k y) = true := (by (try simp only [okR1, okR2, okP, sIn, Bool.and_eq_true, Bool.or_eq_true, Bool.and_eq_false_iff, Bool.or_eq_false_iff, decide_eq_true_eq, decide_eq_false_iff_not, Bool.not_eq_true, Bool.not_eq_false, Bool.not_eq_true', Bool.not_eq_false', Bool.not_true, Bool.not_false, Bool.true_and, Bool.and_true, Bool.false_and, Bool.and_false, Bool.true_or, Bool.or_true, Bool.false_or, Bool.or_false]); first | done | rfl | omega)
        have hcC : (true) = true := (by (try simp only [okR1, okR2, okP, sIn, Bool.and_eq_true, Bool.or_eq_true, Bool.and_eq_false_iff, Bool.or_eq_false_iff, decide_eq_true_eq, decide_eq_false_iff_not, Bool.not_eq_true, Bool.not_eq_false, Bool.not_eq_true', Bool.not_eq_false', Bool.not_true, Bool.not_false, Bool.true_and, Bool.and_true, Bool.false_and, Bool.and_false, Bool.true_or, Bool.or_true, Bool.false_or, Bool.or_false]); first | done | rfl | omega)
        have hsp : pRel S k y = (0, 0, pI (pI S 20 k y) 40 k y) := by unfold pRel; rw [sGo_00 hcA hcB hcC, if_pos (show ((okR1 S k y) && (okR2 S k y) && (true)) = true by rw [hcA, hcB, hcC]; rfl)]; rw [if_pos h20]
        have hM1 : kTc (nE (pRel S k y).2.2) = kTc (nE S) := by rw [hsp]; rfl
        have hM2 : kTs (nE (pRel S k y).2.2) = kTs (nE S) := by rw [hsp]; rfl
        have hR1 : kTc (nE (sRuns T).2) = kTc (nE S) := by rw [hsr]; exact hTc1
        have hR2 : kTs (nE (sRuns T).2) = kTs (nE S) := by rw [hsr]; exact hTc2
        rw [hsr] at hNP
        refine g_callV (i := 100000 + 1) (As := []) (rest := []) K (c_X6_runQueues (S := T) hRo.1 hRo hRl hRe hG0 hRb) (cwV 0 hts gC_X11_35 rfl rfl rfl (by decide +kernel) ⟨Nat.le_of_ble_eq_true rfl, Nat.le_of_ble_eq_true rfl⟩) hK hW (kW_at rfl) rfl rfl hl.1 rfl (Nat.le_of_ble_eq_true rfl) dX11_release_77 ⟨by dsimp only; omega, by dsimp only; omega⟩ (fun v_ f_ H locs hp hW => ?_)
        obtain ⟨bk9, I9, c9, q9, hpv, hb9, hpe⟩ := hp
        rw [hpe] at hW
        subst hpv
        rw [hsr] at hW hb9
        refine lv_pop hx hb dX11_release_80 rfl ?_
        refine lv_iload hx hb dX11_release_81 (lv_at hl 0 rfl) ?_
        refine xi_eq (z' := 0) (by rw [c_8]; rfl) ?_
        exact W.widen (by first | omega | (dsimp only; omega)) (by first | omega | (dsimp only; omega)) (vx_ret (g_zret hx hb hr (Or.inl rfl) hW ⟨by rw [hsp], ad, bk9, I9, c9, q9, rfl, fun h => hP0 (by rw [hsp] at h; exact h), fun h => hb9 (by rw [hTn]; rw [hsp] at h; exact h), by rw [hsp], by rw [hsp, hT]; exact (kW_eqv (rel_eqv S k y)).symm⟩ dX11_release_83 hlk))
      · refine lv_aload_n hx hb dX11_release_60 rfl (lv_at hl 1 rfl) ?_
        refine xi_iconst hx hb dX11_release_61 ?_
        refine g_put (ref := RX7) (T := TX7) (N := 9) (ci := 8) (ty := tyX7 5) (v := .int (iI (1))) hx hb hts wsC_X7 tyX7 tyX7_ok nmX7 hown hK hW (100000 + (1000 + 2 * (k).toNat)) (kW_at (kC_pay (wf_pI (f := 40) hwf (k) (y) (by simp only [rLo, rHi]; omega)) (by omega) (show (k) < S.1 8 0 from by omega))) rfl 5 (by decide) (hts _ lC_X11_167) (fun x h => h) rfl (by decide +kernel) (iI_narz (by omega)) (iI_fitz (by omega)) (by simp [payF]) dX11_release_62 (fun H locs hW => ?_)
        rw [kW_pay (wf_pI (f := 40) hwf (k) (y) (by simp only [rLo, rHi]; omega)) (by omega) (show (k) < S.1 8 0 from by omega) (f := 19) (x := 1) rfl (by simp [payF, pI])] at hW
        refine lv_aload_n hx hb dX11_release_65 rfl (lv_at hl 2 rfl) ?_
        refine g_get (ref := RX11) (T := TX11) (N := 1) (ci := 12) hx hb hts wsC_X11 hown hK hW (100000 + 0) (kW_at rfl) rfl 0 (by decide) (hts _ lC_X11_10) (fun x h => h) (v := .ref (ad 1)) rfl dX11_release_66 ?_
        refine lv_aload_n hx hb dX11_release_69 rfl (lv_at hl 1 rfl) ?_
        refine g_callV (i := 100000 + 1) (As := [.ref (ad (1000 + 2 * (k).toNat))]) (rest := []) K (c_X6_letEnter (k) (wf_pI (f := 19) (wf_pI (f := 40) hwf (k) (y) (by simp only [rLo, rHi]; omega)) (k) (1) (by simp only [rLo, rHi]; omega)) (by omega) (show k < S.1 8 0 by omega)) (cwV 1 hts gC_X11_171 rfl rfl rfl (by decide +kernel) ⟨Nat.le_of_ble_eq_true rfl, Nat.le_of_ble_eq_true rfl⟩) hK hW (kW_at rfl) rfl rfl hl.1 rfl (Nat.le_of_ble_eq_true rfl) dX11_release_70 ⟨by dsimp only; omega, by dsimp only; omega⟩ (fun v_ f_ H locs hp hW => ?_)
        obtain ⟨hpv, hpe⟩ := hp
        rw [hpe] at hW
        subst hpv
        refine lv_aload_n hx hb dX11_release_73 rfl (lv_at hl 2 rfl) ?_
        refine g_get (ref := RX11) (T := TX11) (N := 1) (ci := 12) hx hb hts wsC_X11 hown hK hW (100000 + 0) (kW_at rfl) rfl 0 (by decide) (hts _ lC_X11_10) (fun x h => h) (v := .ref (ad 1)) rfl dX11_release_74 ?_
        obtain ⟨T, hT⟩ : ∃ x : ST, x = (sEnter (pI (pI S 40 (k) (y)) 19 (k) (1)) k) := ⟨_, rfl⟩
        rw [← hT] at hW
        have hRo : okS T := by rw [hT]; exact okS_18 (okS_pI (okS_pI ho _ _ (by decide) (by simp only [rLo, rHi]; omega)) _ _ (by decide) (by simp only [rLo, rHi]; omega)) (by omega) (by omega) (by rw [pI_f _ _ _ (by decide), pI_f _ _ _ (by decide)]; omega) (by have := sEntV_r (pI (pI S 40 k y) 19 k 1) k; omega) (by have := sEntV_r (pI (pI S 40 k y) 19 k 1) k; omega)
        have hT8 : T.1 8 = S.1 8 := by rw [hT]; exact (pI_f _ _ _ (by decide)).trans ((pI_f _ _ _ (by decide)).trans (pI_f _ _ _ (by decide)))
        have hT21 : T.1 21 = S.1 21 := by rw [hT]; exact (pI_f _ _ _ (by decide)).trans ((pI_f _ _ _ (by decide)).trans (pI_f _ _ _ (by decide)))
        have hTe : T.1 31 0 + cNF T ≤ S.1 31 0 + cNF S + 1 := by rw [hT, show (sEnter (pI (pI S 40 k y) 19 k 1) k).1 31 = S.1 31 from (pI_f _ _ _ (by decide)).trans ((pI_f _ _ _ (by decide)).trans (pI_f _ _ _ (by decide))), show cNF (sEnter (pI (pI S 40 k y) 19 k 1) k) = cNF S from (cNF_18 (by omega) (by omega) (by rw [pI_f _ _ _ (by decide), pI_f _ _ _ (by decide)]; omega) (by have := sEntV_r (pI (pI S 40 k y) 19 k 1) k; omega)).trans ((cNF_pI (by decide)).trans (cNF_pI (by decide)))]; omega
        have hTn : nE T = nE S := nE_f (by rw [hT]; exact (pI_f _ _ _ (by decide)).trans ((pI_f _ _ _ (by decide)).trans (pI_f _ _ _ (by decide))))
        have hTc1 : kTc (nE T) = kTc (nE S) := by rw [hTn]
        have hTc2 : kTs (nE T) = kTs (nE S) := by rw [hTn]
        have hRb : nE T = 0 → bk 10 = D.1 21 := fun h => hE0 (by rw [← hTn]; exact h)
        have hRl : legW T := legW_of (congrFun hT8 0) hT21 hlw
        have hRe : T.1 31 0 + cNF T < 20000 := by omega
        have hRr := (sRuns_ok hRo).1
        have hRn := rdP_n hRo.1 (rdP_runs hRo)
        have hNP : nP (sRuns T).2 = nP S := (nP_runs hRo).trans (by unfold nP; rw [hT8])
        have t1 := kTc_le (show nE T ≤ nE (sRuns T).2 by omega)
        have t2 := kTs_le (show nE T ≤ nE (sRuns T).2 by omega)
        have h20 : ¬ S.1 20 k = -1 := by simp only [Bool.not_eq_true', decide_eq_false_iff_not] at c_8; omega
        have hcA : (okR1 S k y) = true := (by (try simp only [okR1, okR2, okP, sIn, Bool.and_eq_true, Bool.or_eq_true, Bool.and_eq_false_iff, Bool.or_eq_false_iff, decide_eq_true_eq, decide_eq_false_iff_not, Bool.not_eq_true, Bool.not_eq_false, Bool.not_eq_true', Bool.not_eq_false', Bool.not_true, Bool.not_false, Bool.true_and, Bool.and_true, Bool.false_and, Bool.and_false, Bool.true_or, Bool.or_true, Bool.false_or, Bool.or_false]); first | done | rfl | omega)
        have hcB : (okR2 S k y) = true := (by (try simp only [okR1, okR2, okP, sIn, Bool.and_eq_true, Bool.or_eq_true, Bool.and_eq_false_iff, Bool.or_eq_false_iff, decide_eq_true_eq, decide_eq_false_iff_not, Bool.not_eq_true, Bool.not_eq_false, Bool.not_eq_true', Bool.not_eq_false', Bool.not_true, Bool.not_false, Bool.true_and, Bool.and_true, Bool.false_and, Bool.and_false, Bool.true_or, Bool.or_true, Bool.false_or, Bool.or_false]); first | done | rfl | omega)
        have hcC : (true) = true := (by (try simp only [okR1, okR2, okP, sIn, Bool.and_eq_true, Bool.or_eq_true, Bool.and_eq_false_iff, Bool.or_eq_false_iff, decide_eq_true_eq, decide_eq_false_iff_not, Bool.not_eq_true, Bool.not_eq_false, Bool.not_eq_true', Bool.not_eq_false', Bool.not_true, Bool.not_false, Bool.true_and, Bool.and_true, Bool.false_and, Bool.and_false, Bool.true_or, Bool.or_true, Bool.false_or, Bool.or_false]); first | done | rfl | omega)
        have hsp : pRel S k y = (0, 1, (sRuns T).2) := by unfold pRel; rw [sGo_00 hcA hcB hcC, if_pos (show ((okR1 S k y) && (okR2 S k y) && (true)) = true by rw [hcA, hcB, hcC]; rfl)]; rw [if_neg h20, hT, rel_eq]
        have hM1 : kTc (nE ((pRel S k y).2.2)) = kTc (nE (sRuns T).2) := by rw [hsp]
        have hM2 : kTs (nE ((pRel S k y).2.2)) = kTs (nE (sRuns T).2) := by rw [hsp]
        refine g_callV (i := 100000 + 1) (As := []) (rest := []) K (c_X6_runQueues (S := T) hRo.1 hRo hRl hRe hG0 hRb) (cwV 0 hts gC_X11_35 rfl rfl rfl (by decide +kernel) ⟨Nat.le_of_ble_eq_true rfl, Nat.le_of_ble_eq_true rfl⟩) hK hW (kW_at rfl) rfl rfl hl.1 rfl (Nat.le_of_ble_eq_true rfl) dX11_release_77 ⟨by dsimp only; omega, by dsimp only; omega⟩ (fun v_ f_ H locs hp hW => ?_)
        obtain ⟨bk9, I9, c9, q9, hpv, hb9, hpe⟩ := hp
        rw [hpe] at hW
        subst hpv
        refine lv_pop hx hb dX11_release_80 rfl ?_
        refine lv_iload hx hb dX11_release_81 (lv_at hl 0 rfl) ?_
        refine xi_eq (z' := 1) (by rw [c_8]; rfl) ?_
        exact W.widen (by first | omega | (dsimp only; omega)) (by first | omega | (dsimp only; omega)) (vx_ret (g_zret hx hb hr (Or.inr rfl) hW ⟨by rw [hsp], ad, bk9, I9, c9, q9, rfl, fun h => hP0 (by rw [hsp] at h; rw [← hNP]; exact h), fun h => hb9 (by rw [hsp] at h; exact h), by rw [hsp], by rw [hsp]⟩ dX11_release_83 hlk))
    refine xi_icmp_eq (tgt := 47) hx hb ⟨by omega, by omega⟩ ⟨by omega, by omega⟩ dX11_release_40 (by decide) (fun c_9 => ?_) (fun c_9 => ?_)
    · refine xi_iconst hx hb dX11_release_47 ?_
      exact xi_eq (z' := bI (!decide (S.1 40 k = -1))) (bI_f (by simp only [c_9, decide_true, decide_false, Bool.true_and, Bool.and_true, Bool.false_and, Bool.and_false, Bool.true_or, Bool.or_true, Bool.false_or, Bool.or_false, Bool.not_true, Bool.not_false, eq_self])) (j_7 _ _ _ rfl hW)
    · refine xi_iconst hx hb dX11_release_43 ?_
      refine lv_goto (tgt := 48) hx hb dX11_release_44 (by decide) ?_
      exact xi_eq (z' := bI (!decide (S.1 40 k = -1))) (bI_t (by simp only [c_9, decide_true, decide_false, Bool.true_and, Bool.and_true, Bool.false_and, Bool.and_false, Bool.true_or, Bool.or_true, Bool.false_or, Bool.or_false, Bool.not_true, Bool.not_false, eq_self])) (j_7 _ _ _ rfl hW)
  refine xi_icmp_ne (tgt := 31) hx hb ⟨by omega, by omega⟩ ⟨by omega, by omega⟩ dX11_release_16 (by decide) (fun c_10 => ?_) (fun c_10 => ?_)
  · refine xi_iconst hx hb dX11_release_31 ?_
    exact xi_eq (z' := bI (decide (S.1 18 k = 1) && !decide (S.1 40 k = y))) (bI_f (by simp only [c_10, decide_true, decide_false, Bool.true_and, Bool.and_true, Bool.false_and, Bool.and_false, Bool.true_or, Bool.or_true, Bool.false_or, Bool.or_false, Bool.not_true, Bool.not_false, eq_self])) (j_4 _ _ _ rfl hW)
  · refine lv_aload_n hx hb dX11_release_19 rfl (lv_at hl 0 rfl) ?_
    refine g_get (ref := RX7) (T := TX7) (N := 9) (ci := 8) hx hb hts wsC_X7 hown hK hW (100000 + (1000 + 2 * (k).toNat)) (kW_at (kC_pay hwf (by omega) (show (k) < S.1 8 0 from by omega))) rfl 4 (by decide) (hts _ lC_X11_164) (fun x h => h) (v := .int (iI (S.1 40 (k)))) rfl dX11_release_20 ?_
    have w_11 := wf_40 hwf (k)
    refine lv_iload_n hx hb dX11_release_23 rfl (lv_at hl 3 rfl) ?_
    refine xi_icmp_eq (tgt := 31) hx hb ⟨by omega, by omega⟩ ⟨by omega, by omega⟩ dX11_release_24 (by decide) (fun c_12 => ?_) (fun c_12 => ?_)
    · refine xi_iconst hx hb dX11_release_31 ?_
      exact xi_eq (z' := bI (decide (S.1 18 k = 1) && !decide (S.1 40 k = y))) (bI_f (by simp only [c_10, c_12, decide_true, decide_false, Bool.true_and, Bool.and_true, Bool.false_and, Bool.and_false, Bool.true_or, Bool.or_true, Bool.false_or, Bool.or_false, Bool.not_true, Bool.not_false, eq_self])) (j_4 _ _ _ rfl hW)
    · refine xi_iconst hx hb dX11_release_27 ?_
      refine lv_goto (tgt := 32) hx hb dX11_release_28 (by decide) ?_
      exact xi_eq (z' := bI (decide (S.1 18 k = 1) && !decide (S.1 40 k = y))) (bI_t (by simp only [c_10, c_12, decide_true, decide_false, Bool.true_and, Bool.and_true, Bool.false_and, Bool.and_false, Bool.true_or, Bool.or_true, Bool.false_or, Bool.or_false, Bool.not_true, Bool.not_false, eq_self])) (j_4 _ _ _ rfl hW)
theorem endS_f {S : ST} (ho : okS S) (hl : lg4 S) (he : S.1 31 0 + cNF S ≤ 28700) (hd : S.1 0 0 < 998) : okS (sEndS S) ∧ (sEndS S).1 8 = S.1 8 ∧ (sEndS S).1 21 = S.1 21 ∧ (sEndS S).1 31 0 + cNF (sEndS S) ≤ S.1 31 0 + cNF S + 36 ∧ nE (sEd1 S).2 ≤ nE (sEndS S) := by
  obtain ⟨h1, h2, h3⟩ := ed1_all ho hl 3
  have e1 : foS ed1 (0, S) 3 = sEd1 S := rfl
  rw [e1] at h1 h2 h3
  have b1 := rdP_bd ho ⟨h1, h2⟩
  obtain ⟨q1, q2, q3, q4⟩ := ed2_all h1.1 h3 (nP (sEd1 S).2) (Nat.le_refl _)
  have e2 : foS ed2 (sEd1 S).2 (nP (sEd1 S).2) = sEd2 (sEd1 S).2 := rfl
  rw [e2] at q1 q2 q3 q4
  have b2 : (sEd2 (sEd1 S).2).1 31 0 = (sEd1 S).2.1 31 0 := by rw [q4 31 (by decide)]
  obtain ⟨r1, r2, r3, r4, r5⟩ := ed3_all q1 (by omega) 18 (Nat.le_refl _)
  have e3 : foS ed3 (sEd2 (sEd1 S).2) 18 = sEd3 (sEd2 (sEd1 S).2) := rfl
  rw [e3] at r1 r2 r3 r4 r5
  have d0 : (sEd3 (sEd2 (sEd1 S).2)).1 0 0 = S.1 0 0 := by rw [r5 0 (by decide), q4 0 (by decide), h1.2.2.2 0 (by unfold cht; decide)]
  have w0 := wf_0 r1.1 0
  have o4 : okS (sEd4 (sEd3 (sEd2 (sEd1 S).2))) := okS_1 (okS_pI r1 (f := 0) 0 ((sEd3 (sEd2 (sEd1 S).2)).1 0 0 + 1) (by decide) (by simp only [rLo, rHi]; omega)) (ed4_1 _ _)
  have f4 : ∀ f : Nat, f ≠ 0 → (sEd4 (sEd3 (sEd2 (sEd1 S).2))).1 f = (sEd3 (sEd2 (sEd1 S).2)).1 f := fun f hf => by
    unfold sEd4
    rw [ed4_1, pI_f _ _ _ hf]
  have c4 : cNF (sEd4 (sEd3 (sEd2 (sEd1 S).2))) = cNF (sEd3 (sEd2 (sEd1 S).2)) := by
    unfold cNF
    rw [f4 18 (by decide)]
  obtain ⟨s1, s2, s3⟩ := ed5_all o4 (nP (sEd4 (sEd3 (sEd2 (sEd1 S).2)))) (nP_le o4.1)
  have e5 : foS ed5 (sEd4 (sEd3 (sEd2 (sEd1 S).2))) (nP (sEd4 (sEd3 (sEd2 (sEd1 S).2)))) = sEndS S := rfl
  rw [e5] at s1 s2 s3
  have key : ∀ f : Nat, f ≠ 0 → f ≠ 31 → cht f → (sEndS S).1 f = S.1 f := fun f h0 h31 hc => by
    rw [s3 f (by have := hc.1; exact this), f4 f h0, r5 f h31, q4 f (by have := hc.1; exact this), h1.2.2.2 f hc]
  refine ⟨s1, key 8 (by decide) (by decide) (by unfold cht; decide), key 21 (by decide) (by decide) (by unfold cht; decide), ?_, ?_⟩
  · have e31 : (sEndS S).1 31 0 = (sEd3 (sEd2 (sEd1 S).2)).1 31 0 := by rw [s3 31 (by decide), f4 31 (by decide)]
    have b3 := b1.2.2.1
    omega
  · rw [nE_endS]
    exact Nat.le_trans (Nat.le_of_eq (nE_ed2 _).symm) (ed3_nE _ (m := 0) (n := 18) (by omega))
set_option maxHeartbeats 4000000 in
set_option maxRecDepth 100000 in
theorem c_X11_endDay {l : Launch} {D : va_G} {cy : Nat → ClassId} {B0 : Nat} {ad bk : Nat → Nat} {S : ST} {I : Int → Bool} {cX qX : Int → Int64} {G : gF}  (hwf : wf S)  (ho : okS S) (hlw : legW S) (he : S.1 31 0 + cNF S < 19900) (hG0 : G 50001 = none) (hG2 : G 50002 = none) (hG3 : G 50003 = none) (hP0 : nP S = 0 → ad 11 = D.1 21) (hE0 : nE S = 0 → bk 10 = D.1 21) (hlg : lg4 S) (hfd2 : fd41 (sEd2 (sEd1 S).2)) (hbal : balB (sEd2 (sEd1 S).2)) (hst : l.stackTraces = false) : gX l yX11_endDay vX11_endDay 13 297 D cy B0 [.ref (ad 0)] (kW cy ad bk S (I, cX, qX) G) (fun r g_ => (pEnd S).1 = 0 ∧ ∃ (ad2 bk2 : Nat → Nat) (I2 : Int → Bool) (c2 q2 : Int → Int64), ad2 0 = ad 0 ∧ (nP (pEnd S).2.2 = 0 → ad2 11 = D.1 21) ∧ (nE (pEnd S).2.2 = 0 → bk2 10 = D.1 21) ∧ r = some (.int (iI (pEnd S).2.1)) ∧ g_ = kW cy ad2 bk2 (pEnd S).2.2 (I2, c2, q2) G) (fun E_ => ((pEnd S).1 = 1 ∧ E_ = xIS)) (kTc (nE (pEnd S).2.2) - kTc (nE S) + 16) (kTs (nE (pEnd S).2.2) - kTs (nE S) + 400) := by
  refine g_startX (cc := cX11_endDay) (maxL := 2) (ret := (some .int)) (by decide) rfl (Nat.le_of_ble_eq_true rfl) ?_
  intro p_ e_ s_ m_ be_ me_ co_ ls H locs K hr hlk hnm ht hK hW hl
  obtain ⟨hx, hb, hml, hown, hts⟩ := id K
  have hl : lv_has ls 2 [(0, .ref (ad 0))] := hl
  have h80 := wf_8 hwf 0
  have h310 := wf_31 hwf 0
  refine lv_aload_n hx hb dX11_endDay_0 rfl (lv_at hl 0 rfl) ?_
  refine g_get (ref := RX11) (T := TX11) (N := 1) (ci := 12) hx hb hts wsC_X11 hown hK hW (100000 + 0) (kW_at rfl) rfl 0 (by decide) (hts _ lC_X11_10) (fun x h => h) (v := .ref (ad 1)) rfl dX11_endDay_1 ?_
  refine g_get (ref := RX6) (T := TX6) (N := 8) (ci := 7) hx hb hts wsC_X6 hown hK hW (100000 + 1) (kW_at rfl) rfl 0 (by decide) (hts _ lC_X11_71) (fun x h => h) (v := .ref (ad 2)) rfl dX11_endDay_4 ?_
  refine g_get (ref := RX4) (T := TX4) (N := 2) (ci := 5) hx hb hts wsC_X4 hown hK hW (100000 + 2) (kW_at rfl) rfl 0 (by decide) (hts _ lC_X11_178) (fun x h => h) (v := .int (iI (S.1 0 (0)))) rfl dX11_endDay_7 ?_
  have w_1 := wf_0 hwf (0)
  refine xi_sipush hx hb dX11_endDay_10 (by decide) ?_
  have j_2 : ∀ (zJ : Bool) (H : Heap) (locs : List Loc), zJ = (decide (S.1 0 0 < 998)) → gW D B0 s_ (kW cy ad bk S (I, cX, qX) G) H locs → W p_ l e_ { frames := 13, cells := kTc (nE (pEnd S).2.2) - kTc (nE S) + 16, slots := kTs (nE (pEnd S).2.2) - kTs (nE S) + 400, locals := 297 } s_ m_ ([.ref (ad 0)] : List Value).toArray be_ me_ co_ H locs 0 0 (vx_MQ be_ (gQ D B0 (fun (r : Option Value) (g_ : gF) => (pEnd S).1 = 0 ∧ ∃ (ad2 bk2 : Nat → Nat) (I2 : Int → Bool) (c2 q2 : Int → Int64), ad2 0 = ad 0 ∧ (nP (pEnd S).2.2 = 0 → ad2 11 = D.1 21) ∧ (nE (pEnd S).2.2 = 0 → bk2 10 = D.1 21) ∧ r = some (.int (iI (pEnd S).2.1)) ∧ g_ = kW cy ad2 bk2 (pEnd S).2.2 (I2, c2, q2) G)) (gXC D B0 (kW cy ad bk S (I, cX, qX) G) (fun E_ : String => ((pEnd S).1 = 1 ∧ E_ = xIS))) ([.ref (ad 0)] : List Value).toArray s_ (kTc (nE (pEnd S).2.2) - kTc (nE S) + 16) (kTs (nE (pEnd S).2.2) - kTs (nE S) + 400) (fun q : Nat => B0 ≤ q)) (F0 m_ 21 ls [.int (iI (bI (zJ)))]) := by
    intro zJ H locs hzJ hW
    subst hzJ
    refine g_xcallS (As := [.int (iI (bI (decide (S.1 0 0 < 998))))]) (rest := []) K (c_X11_needState (decide (S.1 0 0 < 998)) hst) (va_cwS 1 hts gC_X11_92 rfl rfl rfl (by decide +kernel) ⟨Nat.le_of_ble_eq_true rfl, Nat.le_of_ble_eq_true rfl⟩) hK hW rfl hl.1 rfl (Nat.le_of_ble_eq_true rfl) dX11_endDay_21 ⟨by dsimp only; omega, by dsimp only; omega⟩ (fun E_ ce_ q9_ H1 locs1 hE hW1 h1_ h2_ h3_ => g_outX ht hlk hW1 (fun _ _ h => h) (by obtain ⟨rfl, hE⟩ := hE; exact ⟨(show (pEnd S).1 = 1 from sGo_1 (a := decide (S.1 0 0 < 998)) (b := true) (d := true) (by have hE2 := hE; (try simp only [sIn, Bool.and_eq_true, Bool.or_eq_true, Bool.and_eq_false_iff, Bool.or_eq_false_iff, decide_eq_true_eq, decide_eq_false_iff_not, Bool.not_eq_true, Bool.not_eq_false, Bool.not_eq_true', Bool.not_eq_false', Bool.not_true, Bool.not_false, Bool.true_and, Bool.and_true, Bool.false_and, Bool.and_false, Bool.true_or, Bool.or_true, Bool.false_or, Bool.or_false] at hE2); simp only [sIn, Bool.and_eq_true, Bool.or_eq_true, Bool.and_eq_false_iff, Bool.or_eq_false_iff, decide_eq_true_eq, decide_eq_false_iff_not, Bool.not_eq_true, Bool.not_eq_false, Bool.not_eq_true', Bool.not_eq_false', Bool.not_true, Bool.not_false, Bool.true_and, Bool.and_true, Bool.false_and, Bool.and_false, Bool.true_or, Bool.or_true, Bool.false_or, Bool.or_false]; omega)), rfl⟩) h1_ h2_ h3_ (by first | omega | (dsimp only; omega)) (by first | omega | (dsimp only; omega))) (fun v_ f_ H locs hp hW => ?_)
    obtain ⟨hq_3, hpv, hpe⟩ := hp
    rw [hpe] at hW
    subst hpv
    (try simp only [sIn, Bool.and_eq_true, Bool.or_eq_true, Bool.and_eq_false_iff, Bool.or_eq_false_iff, decide_eq_true_eq, decide_eq_false_iff_not, Bool.not_eq_true, Bool.not_eq_false, Bool.not_eq_true', Bool.not_eq_false', Bool.not_true, Bool.not_false, Bool.true_and, Bool.and_true, Bool.false_and, Bool.and_false, Bool.true_or, Bool.or_true, Bool.false_or, Bool.or_false] at hq_3)
    have hcA : (decide (S.1 0 0 < 998)) = true := (by (try simp only [sIn, Bool.and_eq_true, Bool.or_eq_true, Bool.and_eq_false_iff, Bool.or_eq_false_iff, decide_eq_true_eq, decide_eq_false_iff_not, Bool.not_eq_true, Bool.not_eq_false, Bool.not_eq_true', Bool.not_eq_false', Bool.not_true, Bool.not_false, Bool.true_and, Bool.and_true, Bool.false_and, Bool.and_false, Bool.true_or, Bool.or_true, Bool.false_or, Bool.or_false]); first | done | rfl | omega)
    have hcB : (true) = true := (by (try simp only [sIn, Bool.and_eq_true, Bool.or_eq_true, Bool.and_eq_false_iff, Bool.or_eq_false_iff, decide_eq_true_eq, decide_eq_false_iff_not, Bool.not_eq_true, Bool.not_eq_false, Bool.not_eq_true', Bool.not_eq_false', Bool.not_true, Bool.not_false, Bool.true_and, Bool.and_true, Bool.false_and, Bool.and_false, Bool.true_or, Bool.or_true, Bool.false_or, Bool.or_false]); first | done | rfl | omega)
    have hcC : (true) = true := (by (try simp only [sIn, Bool.and_eq_true, Bool.or_eq_true, Bool.and_eq_false_iff, Bool.or_eq_false_iff, decide_eq_true_eq, decide_eq_false_iff_not, Bool.not_eq_true, Bool.not_eq_false, Bool.not_eq_true', Bool.not_eq_false', Bool.not_true, Bool.not_false, Bool.true_and, Bool.and_true, Bool.false_and, Bool.and_false, Bool.true_or, Bool.or_true, Bool.false_or, Bool.or_false]); first | done | rfl | omega)
    have hsp : pEnd S = (0, (sEd1 S).1 + (sRuns (sEndS S)).1, (sRuns (sEndS S)).2) := by unfold pEnd; rw [sGo_00 hcA hcB hcC, if_pos (show ((decide (S.1 0 0 < 998)) && (true) && (true)) = true by rw [hcA, hcB, hcC]; rfl)]
    obtain ⟨hzo, hz8, hz21, hze, hzn⟩ := endS_f ho hlg (by omega) (by omega)
    have hfr := (rdP_n hzo.1 (rdP_runs hzo)).1
    obtain ⟨he1, he2, he3⟩ := ed1_all ho hlg 3
    have hb1 := rdP_bd ho (⟨he1, he2⟩ : rdP S (foS ed1 (0, S) 3))
    have hzn2 : nE S ≤ nE (sEndS S) := Nat.le_trans hb1.2.2.2.1 hzn
    have hmE : nE (sEndS S) ≤ nE (pEnd S).2.2 := by rw [hsp]; show _ ≤ nE (sRuns _).2; omega
    have g1 := kTc_le hmE
    have g2 := kTs_le hmE
    have g3 := kTc_le hzn2
    have g4 := kTs_le hzn2
    have hmA : 0 + 1 + (kTc (nE (sEndS S)) - kTc (nE S)) ≤ kTc (nE (pEnd S).2.2) - kTc (nE S) + 16 := by omega
    have hmB : 0 + 6 + (kTs (nE (sEndS S)) - kTs (nE S)) ≤ kTs (nE (pEnd S).2.2) - kTs (nE S) + 400 := by omega
    have hs1 : 0 ≤ (sEd1 S).1 ∧ (sEd1 S).1 ≤ 60 := ⟨hb1.1, hb1.2.1⟩
    clear hsp hcA hcB hcC
    refine lv_aload_n hx hb dX11_endDay_24 rfl (lv_at hl 0 rfl) ?_
    refine g_get (ref := RX11) (T := TX11) (N := 1) (ci := 12) hx hb hts wsC_X11 hown hK hW (100000 + 0) (kW_at rfl) rfl 0 (by decide) (hts _ lC_X11_10) (fun x h => h) (v := .ref (ad 1)) rfl dX11_endDay_25 ?_
    refine g_callV (i := 100000 + 1) (As := []) (rest := []) K (c_X6_closeDay (S := S) hwf ho hlg hlw (by omega) hfd2 hbal he hG0 hE0) (cwV 0 hts gC_X11_194 rfl rfl rfl (by decide +kernel) ⟨Nat.le_of_ble_eq_true rfl, Nat.le_of_ble_eq_true rfl⟩) hK hW (kW_at rfl) rfl rfl hl.1 rfl (Nat.le_of_ble_eq_true rfl) dX11_endDay_28 ⟨hmA, hmB⟩ (fun v_ f_ H locs hp hW => ?_)
    obtain ⟨bk4, I4, c4, q4, hpv, hb4, hpe⟩ := hp
    rw [hpe] at hW
    subst hpv
    refine lv_istore_n (lv' := [(1, .int (iI ((sEd1 S).1))), (0, .ref (ad 0))]) hx hb dX11_endDay_31 rfl hl (by decide) rfl (fun ls hl => ?_)
    refine lv_iload_n hx hb dX11_endDay_32 rfl (lv_at hl 0 rfl) ?_
    refine lv_aload_n hx hb dX11_endDay_33 rfl (lv_at hl 1 rfl) ?_
    refine g_get (ref := RX11) (T := TX11) (N := 1) (ci := 12) hx hb hts wsC_X11 hown hK hW (100000 + 0) (kW_at rfl) rfl 0 (by decide) (hts _ lC_X11_10) (fun x h => h) (v := .ref (ad 1)) rfl dX11_endDay_34 ?_
    obtain ⟨T, hT⟩ : ∃ x : ST, x = (sEndS S) := ⟨_, rfl⟩
    rw [← hT] at hW
    have hRo : okS T := by rw [hT]; exact hzo
    have hT8 : T.1 8 = S.1 8 := by rw [hT]; exact hz8
    have hT21 : T.1 21 = S.1 21 := by rw [hT]; exact hz21
    have hTe : T.1 31 0 + cNF T ≤ S.1 31 0 + cNF S + 36 := by rw [hT]; exact hze
    have hTq1 : kTc (nE T) = kTc (nE (sEndS S)) := by rw [hT]
    have hTq2 : kTs (nE T) = kTs (nE (sEndS S)) := by rw [hT]
    have hRb : nE T = 0 → bk4 10 = D.1 21 := fun h => hb4 (by rw [← hT]; exact h)
    have hRl : legW T := legW_of (congrFun hT8 0) hT21 hlw
    have hRe : T.1 31 0 + cNF T < 20000 := by omega
    have hRr := (sRuns_ok hRo).1
    have hRn := rdP_n hRo.1 (rdP_runs hRo)
    have hNP : nP (sRuns T).2 = nP S := (nP_runs hRo).trans (by unfold nP; rw [hT8])
    have t1 := kTc_le (show nE T ≤ nE (sRuns T).2 by omega)
    have t2 := kTs_le (show nE T ≤ nE (sRuns T).2 by omega)
    have hcA : (decide (S.1 0 0 < 998)) = true := (by (try simp only [sIn, Bool.and_eq_true, Bool.or_eq_true, Bool.and_eq_false_iff, Bool.or_eq_false_iff, decide_eq_true_eq, decide_eq_false_iff_not, Bool.not_eq_true, Bool.not_eq_false, Bool.not_eq_true', Bool.not_eq_false', Bool.not_true, Bool.not_false, Bool.true_and, Bool.and_true, Bool.false_and, Bool.and_false, Bool.true_or, Bool.or_true, Bool.false_or, Bool.or_false]); first | done | rfl | omega)
    have hcB : (true) = true := (by (try simp only [sIn, Bool.and_eq_true, Bool.or_eq_true, Bool.and_eq_false_iff, Bool.or_eq_false_iff, decide_eq_true_eq, decide_eq_false_iff_not, Bool.not_eq_true, Bool.not_eq_false, Bool.not_eq_true', Bool.not_eq_false', Bool.not_true, Bool.not_false, Bool.true_and, Bool.and_true, Bool.false_and, Bool.and_false, Bool.true_or, Bool.or_true, Bool.false_or, Bool.or_false]); first | done | rfl | omega)
    have hcC : (true) = true := (by (try simp only [sIn, Bool.and_eq_true, Bool.or_eq_true, Bool.and_eq_false_iff, Bool.or_eq_false_iff, decide_eq_true_eq, decide_eq_false_iff_not, Bool.not_eq_true, Bool.not_eq_false, Bool.not_eq_true', Bool.not_eq_false', Bool.not_true, Bool.not_false, Bool.true_and, Bool.and_true, Bool.false_and, Bool.and_false, Bool.true_or, Bool.or_true, Bool.false_or, Bool.or_false]); first | done | rfl | omega)
    have hsp : pEnd S = (0, (sEd1 S).1 + (sRuns T).1, (sRuns T).2) := by unfold pEnd; rw [sGo_00 hcA hcB hcC, if_pos (show ((decide (S.1 0 0 < 998)) && (true) && (true)) = true by rw [hcA, hcB, hcC]; rfl)]; rw [hT]
    have hM1 : kTc (nE ((pEnd S).2.2)) = kTc (nE (sRuns T).2) := by rw [hsp]
    have hM2 : kTs (nE ((pEnd S).2.2)) = kTs (nE (sRuns T).2) := by rw [hsp]
    refine g_callV (i := 100000 + 1) (As := []) (rest := [.int (iI ((sEd1 S).1))]) K (c_X6_runQueues (S := T) hRo.1 hRo hRl hRe hG0 hRb) (cwV 0 hts gC_X11_35 rfl rfl rfl (by decide +kernel) ⟨Nat.le_of_ble_eq_true rfl, Nat.le_of_ble_eq_true rfl⟩) hK hW (kW_at rfl) rfl rfl hl.1 rfl (Nat.le_of_ble_eq_true rfl) dX11_endDay_37 ⟨by dsimp only; omega, by dsimp only; omega⟩ (fun v_ f_ H locs hp hW => ?_)
    obtain ⟨bk9, I9, c9, q9, hpv, hb9, hpe⟩ := hp
    rw [hpe] at hW
    subst hpv
    refine xi_iadd hx hb dX11_endDay_40 ?_
    exact W.widen (by first | omega | (dsimp only; omega)) (by first | omega | (dsimp only; omega)) (vx_ret (g_iret hx hb hr hW ⟨by rw [hsp], ad, bk9, I9, c9, q9, rfl, fun h => hP0 (by rw [hsp] at h; rw [← hNP]; exact h), fun h => hb9 (by rw [hsp] at h; exact h), by rw [hsp], by rw [hsp]⟩ dX11_endDay_41 hlk))
  refine xi_icmp_ge (tgt := 20) hx hb ⟨by omega, by omega⟩ ⟨by omega, by omega⟩ dX11_endDay_13 (by decide) (fun c_4 => ?_) (fun c_4 => ?_)
  · refine xi_iconst hx hb dX11_endDay_20 ?_
    exact xi_eq (z' := bI (decide (S.1 0 0 < 998))) (bI_f (by simp only [c_4, Int.not_lt.mpr c_4, decide_true, decide_false, Bool.true_and, Bool.and_true, Bool.false_and, Bool.and_false, Bool.true_or, Bool.or_true, Bool.false_or, Bool.or_false, Bool.not_true, Bool.not_false, eq_self])) (j_2 _ _ _ rfl hW)
  · refine xi_iconst hx hb dX11_endDay_16 ?_
    refine lv_goto (tgt := 21) hx hb dX11_endDay_17 (by decide) ?_
    exact xi_eq (z' := bI (decide (S.1 0 0 < 998))) (bI_t (by simp only [c_4, Int.not_le.mpr c_4, decide_true, decide_false, Bool.true_and, Bool.and_true, Bool.false_and, Bool.and_false, Bool.true_or, Bool.or_true, Bool.false_or, Bool.or_false, Bool.not_true, Bool.not_false, eq_self])) (j_2 _ _ _ rfl hW)
