set_option maxHeartbeats 4000000 in
set_option maxRecDepth 100000 in
theorem c_X6_termsBack {l : Launch} {D : va_G} {cy : Nat → ClassId} {B0 : Nat} {ad bk : Nat → Nat} {S : ST} {I : Int → Bool} {cX qX : Int → Int64} {G : gF} (k : Int) (hwf : wf S) (h0 : 0 ≤ k) (h1 : k < S.1 8 0) : gM l yX6_termsBack vX6_termsBack 2 48 D cy B0 [.ref (ad 1), .ref (ad (1001 + 2 * (k).toNat))] (kW cy ad bk S (I, cX, qX) G) (fun r g_ => ∃ q : Nat, r = some (.ref q) ∧ g_ = kW cy ad bk S (I, cX, qX) (gup G 50003 q (.inr (11, [.int (iI (S.1 10 k)), .int (iI (S.1 9 k)), .int (iI (S.1 11 k)), .int (iI (S.1 12 k)), .int (iI (0)), .int (iI (2)), .int (iI (bI true)), .int (iI (S.1 0 0)), .int (iI (bI true))])))) 1 9 := by
  refine g_start (cc := cX6_termsBack) (maxL := 3) (ret := (some (.object "MillstreamPayments$Terms"))) (by decide) rfl (Nat.le_of_ble_eq_true rfl) ?_
  intro p_ e_ s_ m_ be_ me_ co_ ls H locs K hr hlk hnm hK hW hl
  obtain ⟨hx, hb, hml, hown, hts⟩ := id K
  have hl : lv_has ls 3 [(0, .ref (ad 1)), (1, .ref (ad (1001 + 2 * (k).toNat)))] := hl
  refine g_new hx hb hts wsC_X10 tyX10 tyX10_ok hown (hts _ hC_X6_63) (hts _ nC_X10) (hts _ iC_X10) hK hW 50003 (ci := 11) rfl (fs := [.int (iI 0), .int (iI 0), .int (iI 0), .int (iI 0), .int (iI 0), .int (iI 0), .int (iI 0), .int (iI 0), .int (iI 0)]) (fun j hj => by rcases (show j = 0 ∨ j = 1 ∨ j = 2 ∨ j = 3 ∨ j = 4 ∨ j = 5 ∨ j = 6 ∨ j = 7 ∨ j = 8 by omega) with rfl | rfl | rfl | rfl | rfl | rfl | rfl | rfl | rfl <;> rfl) (by first | omega | (dsimp only; omega)) (by first | omega | (dsimp only; omega)) dX6_termsBack_0 (fun q H hW hne => ?_)
  rw [kW_gG (by decide)] at hW
  refine lv_dup hx hb dX6_termsBack_3 rfl ?_
  refine lv_aload_n hx hb dX6_termsBack_4 rfl (lv_at hl 1 rfl) ?_
  refine g_get (ref := RX10) (T := TX10) (N := 9) (ci := 11) hx hb hts wsC_X10 hown hK hW (100000 + (1001 + 2 * (k).toNat)) (kW_at (kC_trm hwf (by omega) (show (k) < S.1 8 0 from by omega))) rfl 1 (by decide) (hts _ lC_X6_85) (fun x h => h) (v := .int (iI (S.1 10 (k)))) rfl dX6_termsBack_5 ?_
  have w_1 := wf_10 hwf (k)
  refine lv_aload_n hx hb dX6_termsBack_8 rfl (lv_at hl 1 rfl) ?_
  refine g_get (ref := RX10) (T := TX10) (N := 9) (ci := 11) hx hb hts wsC_X10 hown hK hW (100000 + (1001 + 2 * (k).toNat)) (kW_at (kC_trm hwf (by omega) (show (k) < S.1 8 0 from by omega))) rfl 0 (by decide) (hts _ lC_X6_88) (fun x h => h) (v := .int (iI (S.1 9 (k)))) rfl dX6_termsBack_9 ?_
  have w_2 := wf_9 hwf (k)
  refine lv_aload_n hx hb dX6_termsBack_12 rfl (lv_at hl 1 rfl) ?_
  refine g_get (ref := RX10) (T := TX10) (N := 9) (ci := 11) hx hb hts wsC_X10 hown hK hW (100000 + (1001 + 2 * (k).toNat)) (kW_at (kC_trm hwf (by omega) (show (k) < S.1 8 0 from by omega))) rfl 2 (by decide) (hts _ lC_X6_69) (fun x h => h) (v := .int (iI (S.1 11 (k)))) rfl dX6_termsBack_13 ?_
  have w_3 := wf_11 hwf (k)
  refine lv_aload_n hx hb dX6_termsBack_16 rfl (lv_at hl 1 rfl) ?_
  refine g_get (ref := RX10) (T := TX10) (N := 9) (ci := 11) hx hb hts wsC_X10 hown hK hW (100000 + (1001 + 2 * (k).toNat)) (kW_at (kC_trm hwf (by omega) (show (k) < S.1 8 0 from by omega))) rfl 3 (by decide) (hts _ lC_X6_91) (fun x h => h) (v := .int (iI (S.1 12 (k)))) rfl dX6_termsBack_17 ?_
  have w_4 := wf_12 hwf (k)
  refine g_callI (As := [.int (iI (S.1 10 (k))), .int (iI (S.1 9 (k))), .int (iI (S.1 11 (k))), .int (iI (S.1 12 (k)))]) (rest := [.ref (q)]) K (c_X10_init (i := 50003) (S.1 10 (k)) (S.1 9 (k)) (S.1 11 (k)) (S.1 12 (k)) (by rw [kW_G (by decide)]; exact gup_s _ _ _ _)) (cwI 4 hts gC_X10_init rfl rfl rfl (hts _ iC_X10) (hts _ gC_X6_94) (hts _ sC_X10_init) rfl (by decide +kernel) ⟨Nat.le_of_ble_eq_true rfl, Nat.le_of_ble_eq_true rfl⟩) hK hW rfl hl.1 rfl (Nat.le_of_ble_eq_true rfl) dX6_termsBack_20 ⟨Nat.le_refl _, Nat.le_refl _⟩ (fun v_ f_ H locs hp hW => ?_)
  obtain ⟨hpv, hpe⟩ := hp
  rw [kW_gG (by decide), gup_gup] at hpe
  rw [hpe] at hW
  subst hpv
  refine lv_astore_n (lv' := [(2, .ref (q)), (0, .ref (ad 1)), (1, .ref (ad (1001 + 2 * (k).toNat)))]) hx hb dX6_termsBack_23 rfl hl (by decide) rfl (fun ls hl => ?_)
  refine lv_aload_n hx hb dX6_termsBack_24 rfl (lv_at hl 0 rfl) ?_
  refine xi_iconst hx hb dX6_termsBack_25 ?_
  refine xi_iconst hx hb dX6_termsBack_26 ?_
  refine xi_iconst hx hb dX6_termsBack_27 ?_
  refine lv_aload_n hx hb dX6_termsBack_28 rfl (lv_at hl 1 rfl) ?_
  refine g_get (ref := RX6) (T := TX6) (N := 8) (ci := 7) hx hb hts wsC_X6 hown hK hW (100000 + 1) (kW_at rfl) rfl 0 (by decide) (hts _ lC_X6_12) (fun x h => h) (v := .ref (ad 2)) rfl dX6_termsBack_29 ?_
  refine g_get (ref := RX4) (T := TX4) (N := 2) (ci := 5) hx hb hts wsC_X4 hown hK hW (100000 + 2) (kW_at rfl) rfl 0 (by decide) (hts _ lC_X6_68) (fun x h => h) (v := .int (iI (S.1 0 (0)))) rfl dX6_termsBack_32 ?_
  have w_5 := wf_0 hwf (0)
  refine xi_iconst hx hb dX6_termsBack_35 ?_
  refine g_callV (i := 50003) (As := [.int (iI (0)), .int (iI (2)), .int (iI (1)), .int (iI (S.1 0 (0))), .int (iI (1))]) (rest := []) K (c_X10_arrange (i := 50003) (0) (2) (true) (S.1 0 (0)) (true) (by rw [kW_G (by decide)]; exact gup_s _ _ _ _)) (cwV 5 hts gC_X6_97 rfl rfl rfl (by decide +kernel) ⟨Nat.le_of_ble_eq_true rfl, Nat.le_of_ble_eq_true rfl⟩) hK hW (by rw [kW_G (by decide)]; exact gup_s _ _ _ _) rfl rfl hl.1 rfl (Nat.le_of_ble_eq_true rfl) dX6_termsBack_36 ⟨Nat.le_refl _, Nat.le_refl _⟩ (fun v_ f_ H locs hp hW => ?_)
  obtain ⟨hpv, hpe⟩ := hp
  rw [kW_gG (by decide), gup_gup] at hpe
  rw [hpe] at hW
  subst hpv
  refine lv_aload_n hx hb dX6_termsBack_39 rfl (lv_at hl 0 rfl) ?_
  exact g_aret hx hb hr (Or.inr ⟨_, rfl⟩) hW ⟨q, rfl, rfl⟩ dX6_termsBack_40 hlk
