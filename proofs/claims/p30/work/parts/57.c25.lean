set_option maxHeartbeats 4000000 in
set_option maxRecDepth 100000 in
theorem c_X6_settleFirst {l : Launch} {D : va_G} {cy : Nat → ClassId} {B0 : Nat} {ad bk : Nat → Nat} {S : ST} {I : Int → Bool} {cX qX : Int → Int64} {G : gF} (b : Int) (c : Int) (hwf : wf S) (hb0 : 0 ≤ b ∧ b ≤ 5)(hc : 0 ≤ c ∧ c ≤ 2) (ho : okS S) (hlr : ∀ k : Int, 0 ≤ k → k < S.1 8 0 → S.1 21 k < S.1 8 0) (he : S.1 31 0 + cNF S < 20000) (hG0 : G 50001 = none) (hE0 : nE S = 0 → bk 10 = D.1 21) : gM l yX6_settleFirst vX6_settleFirst 11 248 D cy B0 [.ref (ad 1), .int (iI (b)), .int (iI (c))] (kW cy ad bk S (I, cX, qX) G) (fun r g_ => ∃ (bk2 : Nat → Nat) (I2 : Int → Bool) (c2 q2 : Int → Int64), r = some (.int (iI (kSFn S (kSF S I cX qX b c)))) ∧ (nE (kSFs S (kSF S I cX qX b c)) = 0 → bk2 10 = D.1 21) ∧ g_ = kW cy ad bk2 (kSFs S (kSF S I cX qX b c)) (I2, c2, q2) G) (kTc (nE (kSFs S (kSF S I cX qX b c))) - kTc (nE S)) (kTs (nE (kSFs S (kSF S I cX qX b c))) - kTs (nE S)) := by
  refine g_start (cc := cX6_settleFirst) (maxL := 5) (ret := (some .int)) (by decide) rfl (Nat.le_of_ble_eq_true rfl) ?_
  intro p_ e_ s_ m_ be_ me_ co_ ls H locs K hr hlk hnm hK hW hl
  obtain ⟨hx, hb, hml, hown, hts⟩ := id K
  have hl : lv_has ls 5 [(0, .ref (ad 1)), (1, .int (iI (b))), (2, .int (iI (c)))] := hl
  have h80 := wf_8 hwf 0
  refine lv_aload_n hx hb dX6_settleFirst_0 rfl (lv_at hl 0 rfl) ?_
  refine g_get (ref := RX6) (T := TX6) (N := 8) (ci := 7) hx hb hts wsC_X6 hown hK hW (100000 + 1) (kW_at rfl) rfl 2 (by decide) (hts _ lC_X6_28) (fun x h => h) (v := .ref (ad 5)) rfl dX6_settleFirst_1 ?_
  refine lv_iload_n hx hb dX6_settleFirst_4 rfl (lv_at hl 1 rfl) ?_
  refine lv_iload_n hx hb dX6_settleFirst_5 rfl (lv_at hl 2 rfl) ?_
  refine lv_null hx hb dX6_settleFirst_6 ?_
  refine xp_nul (ad := ad) ?_
  refine g_callV (i := 100000 + 5) (As := [.int (iI (b)), .int (iI (c)), pR ad ((-1))]) (rest := []) K (c_X8_nextQueued (b) (c) ((-1)) hwf ⟨by omega, by omega⟩ ⟨by omega, by omega⟩ (Or.inl rfl)) (cwV 3 hts gC_X6_133 rfl rfl rfl (by decide +kernel) ⟨Nat.le_of_ble_eq_true rfl, Nat.le_of_ble_eq_true rfl⟩) hK hW (kW_at rfl) rfl rfl hl.1 rfl (Nat.le_of_ble_eq_true rfl) dX6_settleFirst_7 ⟨Nat.zero_le _, Nat.zero_le _⟩ (fun v_ f_ H locs hp hW => ?_)
  obtain ⟨hpv, hpe⟩ := hp
  rw [hpe] at hW
  have hpv : v_ = some (pR ad (kNx S b c (-1) (nP S))) := hpv
  subst hpv
  obtain ⟨k, hkd⟩ : ∃ x : Int, x = kNx S b c (-1) (nP S) := ⟨_, rfl⟩
  rw [← hkd]
  have hkr := kNx_r S b c (-1) (nP S)
  rw [← hkd] at hkr
  have hkq := kNx_q S b c (nP S)
  rw [← hkd] at hkq
  have hnP : (nP S : Int) = S.1 8 0 := by unfold nP; omega
  refine xp_astore_n (lv' := [(3, pR ad (k)), (0, .ref (ad 1)), (1, .int (iI (b))), (2, .int (iI (c)))]) hx hb dX6_settleFirst_10 rfl hl (by decide) (by simp [pR_cat, cat_i, cat_l, cat_r, cat_n] <;> decide) (fun ls hl => ?_)
  refine xp_aload_n hx hb dX6_settleFirst_11 rfl (lv_at hl 0 rfl) ?_
  refine xp_ifnull (tgt := 23) hx hb dX6_settleFirst_12 (by decide) (fun c_1 => ?_) (fun c_1 => ?_)
  · have hxx : kSF S I cX qX b c = none := by
      unfold kSF
      dsimp only
      rw [← hkd, if_pos c_1]
    refine xi_iconst hx hb dX6_settleFirst_23 ?_
    exact W.widen (by first | exact Nat.zero_le _ | (rw [hxx]; exact Nat.le_of_eq (Nat.zero_add _))) (by first | exact Nat.zero_le _ | (rw [hxx]; exact Nat.le_of_eq (Nat.zero_add _))) (g_iret hx hb hr hW ⟨bk, _, _, _, by rw [hxx]; rfl, by rw [hxx]; exact hE0, by rw [hxx]; rfl⟩ dX6_settleFirst_24 hlk)
  · refine lv_aload_n hx hb dX6_settleFirst_15 rfl (lv_at hl 1 rfl) ?_
    refine xp_aload_n hx hb dX6_settleFirst_16 rfl (lv_at hl 0 rfl) ?_
    refine xp_ref (k := k) (by omega) ?_
    refine g_callV (i := 100000 + 1) (As := [.ref (ad (1000 + 2 * (k).toNat))]) (rest := []) K (c_X6_mayMove (k) hwf (by omega) (by omega)) (cwV 1 hts gC_X6_137 rfl rfl rfl (by decide +kernel) ⟨Nat.le_of_ble_eq_true rfl, Nat.le_of_ble_eq_true rfl⟩) hK hW (kW_at rfl) rfl rfl hl.1 rfl (Nat.le_of_ble_eq_true rfl) dX6_settleFirst_17 ⟨Nat.zero_le _, Nat.zero_le _⟩ (fun v_ f_ H locs hp hW => ?_)
    obtain ⟨hpv, hpe⟩ := hp
    rw [hpe] at hW
    have hpv : v_ = some (.int (iI (bI (moves S k)))) := hpv
    subst hpv
    refine xi_ifb_ne (tgt := 25) hx hb dX6_settleFirst_20 (by decide) (fun c_2 => ?_) (fun c_2 => ?_)
    · refine lv_aload_n hx hb dX6_settleFirst_25 rfl (lv_at hl 1 rfl) ?_
      refine g_get (ref := RX6) (T := TX6) (N := 8) (ci := 7) hx hb hts wsC_X6 hown hK hW (100000 + 1) (kW_at rfl) rfl 7 (by decide) (hts _ lC_X6_54) (fun x h => h) (v := .ref (ad 7)) rfl dX6_settleFirst_26 ?_
      refine g_callV (i := 100000 + 7) (As := []) (rest := []) K (c_X2_clear  hwf ) (cwV 0 hts gC_X6_141 rfl rfl rfl (by decide +kernel) ⟨Nat.le_of_ble_eq_true rfl, Nat.le_of_ble_eq_true rfl⟩) hK hW (kW_at rfl) rfl rfl hl.1 rfl (Nat.le_of_ble_eq_true rfl) dX6_settleFirst_29 ⟨Nat.zero_le _, Nat.zero_le _⟩ (fun v_ f_ H locs hp hW => ?_)
      obtain ⟨hpv, hpe⟩ := hp
      rw [hpe] at hW
      subst hpv
      refine lv_aload_n hx hb dX6_settleFirst_32 rfl (lv_at hl 1 rfl) ?_
      refine g_get (ref := RX6) (T := TX6) (N := 8) (ci := 7) hx hb hts wsC_X6 hown hK hW (100000 + 1) (kW_at rfl) rfl 7 (by decide) (hts _ lC_X6_54) (fun x h => h) (v := .ref (ad 7)) rfl dX6_settleFirst_33 ?_
      refine xp_aload_n hx hb dX6_settleFirst_36 rfl (lv_at hl 0 rfl) ?_
      refine xp_ref (k := k) (by omega) ?_
      refine g_callV (i := 100000 + 7) (As := [.ref (ad (1000 + 2 * (k).toNat))]) (rest := []) K (c_X2_put (k) hwf (by omega) (by omega)) (cwV 1 hts gC_X6_144 rfl rfl rfl (by decide +kernel) ⟨Nat.le_of_ble_eq_true rfl, Nat.le_of_ble_eq_true rfl⟩) hK hW (kW_at rfl) rfl rfl hl.1 rfl (Nat.le_of_ble_eq_true rfl) dX6_settleFirst_37 ⟨Nat.zero_le _, Nat.zero_le _⟩ (fun v_ f_ H locs hp hW => ?_)
      obtain ⟨hpv, hpe⟩ := hp
      rw [hpe] at hW
      subst hpv
      refine xp_aload_n hx hb dX6_settleFirst_40 rfl (lv_at hl 0 rfl) ?_
      refine xp_ref (k := k) (by omega) ?_
      refine g_get (ref := RX7) (T := TX7) (N := 9) (ci := 8) hx hb hts wsC_X7 hown hK hW (100000 + (1000 + 2 * (k).toNat)) (kW_at (kC_pay hwf (by omega) (show (k) < S.1 8 0 from by omega))) rfl 3 (by decide) (hts _ lC_X6_147) (fun x h => h) (v := pR ad (S.1 21 (k))) rfl dX6_settleFirst_41 ?_
      have w_3 := wf_21 hwf (k)
      refine xp_astore (lv' := [(4, pR ad (S.1 21 (k))), (3, pR ad (k)), (0, .ref (ad 1)), (1, .int (iI (b))), (2, .int (iI (c)))]) hx hb dX6_settleFirst_44 hl (by decide) (by simp [pR_cat, cat_i, cat_l, cat_r, cat_n]) (fun ls hl => ?_)
      refine xp_aload hx hb dX6_settleFirst_46 (lv_at hl 0 rfl) ?_
      refine xp_ifnull (tgt := 104) hx hb dX6_settleFirst_48 (by decide) (fun c_4 => ?_) (fun c_4 => ?_)
      · refine lv_aload_n hx hb dX6_settleFirst_104 rfl (lv_at hl 2 rfl) ?_
        refine g_get (ref := RX6) (T := TX6) (N := 8) (ci := 7) hx hb hts wsC_X6 hown hK hW (100000 + 1) (kW_at rfl) rfl 7 (by decide) (hts _ lC_X6_54) (fun x h => h) (v := .ref (ad 7)) rfl dX6_settleFirst_105 ?_
        refine lv_aload_n hx hb dX6_settleFirst_108 rfl (lv_at hl 2 rfl) ?_
        refine g_get (ref := RX6) (T := TX6) (N := 8) (ci := 7) hx hb hts wsC_X6 hown hK hW (100000 + 1) (kW_at rfl) rfl 1 (by decide) (hts _ lC_X6_21) (fun x h => h) (v := .ref (ad 3)) rfl dX6_settleFirst_109 ?_
        refine lv_iload_n hx hb dX6_settleFirst_112 rfl (lv_at hl 4 rfl) ?_
        refine g_callV (i := 100000 + 7) (As := [.ref (ad 3), .int (iI (c))]) (rest := []) K (c_X2_isWithinBounds (c) hwf ⟨by omega, by omega⟩) (cwV 2 hts gC_X6_151 rfl rfl rfl (by decide +kernel) ⟨Nat.le_of_ble_eq_true rfl, Nat.le_of_ble_eq_true rfl⟩) hK hW (kW_at rfl) rfl rfl hl.1 rfl (Nat.le_of_ble_eq_true rfl) dX6_settleFirst_113 ⟨Nat.zero_le _, Nat.zero_le _⟩ (fun v_ f_ H locs hp hW => ?_)
        obtain ⟨hpv, hpe⟩ := hp
        rw [hpe] at hW
        have hpv : v_ = some (.int (iI (bI (kFit S (kC1 S k (Int64.ofInt (S.1 12 k)) (flG cX 0 21)) (kQ1 S k (Int64.ofInt (S.1 12 k)) (flG qX 0 108)) c)))) := hpv
        subst hpv
        refine xi_ifb_eq (tgt := 126) hx hb dX6_settleFirst_116 (by decide) (fun c_5 => ?_) (fun c_5 => ?_)
        · have hxx : kSF S I cX qX b c = none := by
            unfold kSF
            dsimp only
            rw [← hkd, if_neg c_1, if_neg (by rw [c_2]; decide), if_pos c_4, if_neg (fun h => absurd (h.symm.trans (show kFit S (kD1 S cX k) (kE1 S qX k) c = false from c_5)) (by decide))]
          refine xi_iconst hx hb dX6_settleFirst_126 ?_
          exact W.widen (by first | exact Nat.zero_le _ | (rw [hxx]; exact Nat.le_of_eq (Nat.zero_add _))) (by first | exact Nat.zero_le _ | (rw [hxx]; exact Nat.le_of_eq (Nat.zero_add _))) (g_iret hx hb hr hW ⟨bk, _, _, _, by rw [hxx]; rfl, by rw [hxx]; exact hE0, by rw [hxx]; rfl⟩ dX6_settleFirst_127 hlk)
        · have hxx : kSF S I cX qX b c = some (kM1 I k) := by
            unfold kSF
            dsimp only
            rw [← hkd, if_neg c_1, if_neg (by rw [c_2]; decide), if_pos c_4, if_pos (show kFit S (kD1 S cX k) (kE1 S qX k) c = true from c_5)]
          refine lv_aload_n hx hb dX6_settleFirst_119 rfl (lv_at hl 2 rfl) ?_
          refine g_callV (i := 100000 + 1) (As := []) (rest := []) K (c_X6_settleBatch (I := (kM1 I k)) hwf ho (kM1_h hwf (hkq.resolve_left c_1).1) he hG0 hE0) (cwV 0 hts gC_X6_155 rfl rfl rfl (by decide +kernel) ⟨Nat.le_of_ble_eq_true rfl, Nat.le_of_ble_eq_true rfl⟩) hK hW (kW_at rfl) rfl rfl hl.1 rfl (Nat.le_of_ble_eq_true rfl) dX6_settleFirst_120 ⟨by dsimp only; rw [hxx]; exact Nat.le_of_eq (Nat.zero_add _), by dsimp only; rw [hxx]; exact Nat.le_of_eq (Nat.zero_add _)⟩ (fun v_ f_ H locs hp hW => ?_)
          obtain ⟨hpv, bk2, hb2, hpe⟩ := hp
          rw [hpe] at hW
          subst hpv
          refine lv_goto (tgt := 127) hx hb dX6_settleFirst_123 (by decide) ?_
          exact W.widen (by first | exact Nat.zero_le _ | (rw [hxx]; exact Nat.le_of_eq (Nat.zero_add _))) (by first | exact Nat.zero_le _ | (rw [hxx]; exact Nat.le_of_eq (Nat.zero_add _))) (g_iret hx hb hr hW ⟨bk2, _, _, _, by rw [hxx]; rfl, by rw [hxx]; exact hb2, by rw [hxx]; rfl⟩ dX6_settleFirst_127 hlk)
      · have hl2 := hlr k (by omega) (by omega)
        refine xp_aload hx hb dX6_settleFirst_51 (lv_at hl 0 rfl) ?_
        refine xp_ref (k := S.1 21 (k)) (by omega) ?_
        refine g_get (ref := RX7) (T := TX7) (N := 9) (ci := 8) hx hb hts wsC_X7 hown hK hW (100000 + (1000 + 2 * (S.1 21 (k)).toNat)) (kW_at (kC_pay hwf (by omega) (show (S.1 21 (k)) < S.1 8 0 from by omega))) rfl 2 (by decide) (hts _ lC_X6_115) (fun x h => h) (v := .int (iI (S.1 18 (S.1 21 (k))))) rfl dX6_settleFirst_53 ?_
        have w_6 := wf_18 hwf (S.1 21 (k))
        refine xi_iconst hx hb dX6_settleFirst_56 ?_
        refine xi_icmp_ne (tgt := 69) hx hb ⟨by omega, by omega⟩ ⟨by omega, by omega⟩ dX6_settleFirst_57 (by decide) (fun c_7 => ?_) (fun c_7 => ?_)
        · have hxx : kSF S I cX qX b c = none := by
            unfold kSF
            dsimp only
            rw [← hkd, if_neg c_1, if_neg (by rw [c_2]; decide), if_neg c_4, if_pos c_7]
          refine xi_iconst hx hb dX6_settleFirst_69 ?_
          exact W.widen (by first | exact Nat.zero_le _ | (rw [hxx]; exact Nat.le_of_eq (Nat.zero_add _))) (by first | exact Nat.zero_le _ | (rw [hxx]; exact Nat.le_of_eq (Nat.zero_add _))) (g_iret hx hb hr hW ⟨bk, _, _, _, by rw [hxx]; rfl, by rw [hxx]; exact hE0, by rw [hxx]; rfl⟩ dX6_settleFirst_70 hlk)
        · refine lv_aload_n hx hb dX6_settleFirst_60 rfl (lv_at hl 2 rfl) ?_
          refine xp_aload hx hb dX6_settleFirst_61 (lv_at hl 0 rfl) ?_
          refine xp_ref (k := S.1 21 (k)) (by omega) ?_
          refine g_callV (i := 100000 + 1) (As := [.ref (ad (1000 + 2 * (S.1 21 (k)).toNat))]) (rest := []) K (c_X6_mayMove (S.1 21 (k)) hwf (by omega) (by omega)) (cwV 1 hts gC_X6_137 rfl rfl rfl (by decide +kernel) ⟨Nat.le_of_ble_eq_true rfl, Nat.le_of_ble_eq_true rfl⟩) hK hW (kW_at rfl) rfl rfl hl.1 rfl (Nat.le_of_ble_eq_true rfl) dX6_settleFirst_63 ⟨Nat.zero_le _, Nat.zero_le _⟩ (fun v_ f_ H locs hp hW => ?_)
          obtain ⟨hpv, hpe⟩ := hp
          rw [hpe] at hW
          have hpv : v_ = some (.int (iI (bI (moves S (S.1 21 (k)))))) := hpv
          subst hpv
          refine xi_ifb_ne (tgt := 71) hx hb dX6_settleFirst_66 (by decide) (fun c_8 => ?_) (fun c_8 => ?_)
          · refine lv_aload_n hx hb dX6_settleFirst_71 rfl (lv_at hl 2 rfl) ?_
            refine g_get (ref := RX6) (T := TX6) (N := 8) (ci := 7) hx hb hts wsC_X6 hown hK hW (100000 + 1) (kW_at rfl) rfl 7 (by decide) (hts _ lC_X6_54) (fun x h => h) (v := .ref (ad 7)) rfl dX6_settleFirst_72 ?_
            refine xp_aload hx hb dX6_settleFirst_75 (lv_at hl 0 rfl) ?_
            refine xp_ref (k := S.1 21 (k)) (by omega) ?_
            refine g_callV (i := 100000 + 7) (As := [.ref (ad (1000 + 2 * (S.1 21 (k)).toNat))]) (rest := []) K (c_X2_put (S.1 21 (k)) hwf (by omega) (by omega)) (cwV 1 hts gC_X6_144 rfl rfl rfl (by decide +kernel) ⟨Nat.le_of_ble_eq_true rfl, Nat.le_of_ble_eq_true rfl⟩) hK hW (kW_at rfl) rfl rfl hl.1 rfl (Nat.le_of_ble_eq_true rfl) dX6_settleFirst_77 ⟨Nat.zero_le _, Nat.zero_le _⟩ (fun v_ f_ H locs hp hW => ?_)
            obtain ⟨hpv, hpe⟩ := hp
            rw [hpe] at hW
            subst hpv
            refine lv_aload_n hx hb dX6_settleFirst_80 rfl (lv_at hl 2 rfl) ?_
            refine g_get (ref := RX6) (T := TX6) (N := 8) (ci := 7) hx hb hts wsC_X6 hown hK hW (100000 + 1) (kW_at rfl) rfl 7 (by decide) (hts _ lC_X6_54) (fun x h => h) (v := .ref (ad 7)) rfl dX6_settleFirst_81 ?_
            refine lv_aload_n hx hb dX6_settleFirst_84 rfl (lv_at hl 2 rfl) ?_
            refine g_get (ref := RX6) (T := TX6) (N := 8) (ci := 7) hx hb hts wsC_X6 hown hK hW (100000 + 1) (kW_at rfl) rfl 1 (by decide) (hts _ lC_X6_21) (fun x h => h) (v := .ref (ad 3)) rfl dX6_settleFirst_85 ?_
            refine xp_aload hx hb dX6_settleFirst_88 (lv_at hl 0 rfl) ?_
            refine xp_ref (k := S.1 21 (k)) (by omega) ?_
            refine g_get (ref := RX7) (T := TX7) (N := 9) (ci := 8) hx hb hts wsC_X7 hown hK hW (100000 + (1000 + 2 * (S.1 21 (k)).toNat)) (kW_at (kC_pay hwf (by omega) (show (S.1 21 (k)) < S.1 8 0 from by omega))) rfl 1 (by decide) (hts _ lC_X6_101) (fun x h => h) (v := .ref (ad (1001 + 2 * (S.1 21 (k)).toNat))) rfl dX6_settleFirst_90 ?_
            refine g_get (ref := RX10) (T := TX10) (N := 9) (ci := 11) hx hb hts wsC_X10 hown hK hW (100000 + (1001 + 2 * (S.1 21 (k)).toNat)) (kW_at (kC_trm hwf (by omega) (show (S.1 21 (k)) < S.1 8 0 from by omega))) rfl 2 (by decide) (hts _ lC_X6_69) (fun x h => h) (v := .int (iI (S.1 11 (S.1 21 (k))))) rfl dX6_settleFirst_93 ?_
            have w_9 := wf_11 hwf (S.1 21 (k))
            refine g_callV (i := 100000 + 7) (As := [.ref (ad 3), .int (iI (S.1 11 (S.1 21 (k))))]) (rest := []) K (c_X2_isWithinBounds (S.1 11 (S.1 21 (k))) hwf ⟨by omega, by omega⟩) (cwV 2 hts gC_X6_151 rfl rfl rfl (by decide +kernel) ⟨Nat.le_of_ble_eq_true rfl, Nat.le_of_ble_eq_true rfl⟩) hK hW (kW_at rfl) rfl rfl hl.1 rfl (Nat.le_of_ble_eq_true rfl) dX6_settleFirst_96 ⟨Nat.zero_le _, Nat.zero_le _⟩ (fun v_ f_ H locs hp hW => ?_)
            obtain ⟨hpv, hpe⟩ := hp
            rw [hpe] at hW
            have hpv : v_ = some (.int (iI (bI (kFit S (kC1 S (S.1 21 (k)) (Int64.ofInt (S.1 12 (S.1 21 (k)))) (kC1 S k (Int64.ofInt (S.1 12 k)) (flG cX 0 21))) (kQ1 S (S.1 21 (k)) (Int64.ofInt (S.1 12 (S.1 21 (k)))) (kQ1 S k (Int64.ofInt (S.1 12 k)) (flG qX 0 108))) (S.1 11 (S.1 21 (k))))))) := hpv
            subst hpv
            refine xi_ifb_ne (tgt := 104) hx hb dX6_settleFirst_99 (by decide) (fun c_10 => ?_) (fun c_10 => ?_)
            · refine lv_aload_n hx hb dX6_settleFirst_104 rfl (lv_at hl 2 rfl) ?_
              refine g_get (ref := RX6) (T := TX6) (N := 8) (ci := 7) hx hb hts wsC_X6 hown hK hW (100000 + 1) (kW_at rfl) rfl 7 (by decide) (hts _ lC_X6_54) (fun x h => h) (v := .ref (ad 7)) rfl dX6_settleFirst_105 ?_
              refine lv_aload_n hx hb dX6_settleFirst_108 rfl (lv_at hl 2 rfl) ?_
              refine g_get (ref := RX6) (T := TX6) (N := 8) (ci := 7) hx hb hts wsC_X6 hown hK hW (100000 + 1) (kW_at rfl) rfl 1 (by decide) (hts _ lC_X6_21) (fun x h => h) (v := .ref (ad 3)) rfl dX6_settleFirst_109 ?_
              refine lv_iload_n hx hb dX6_settleFirst_112 rfl (lv_at hl 4 rfl) ?_
              refine g_callV (i := 100000 + 7) (As := [.ref (ad 3), .int (iI (c))]) (rest := []) K (c_X2_isWithinBounds (c) hwf ⟨by omega, by omega⟩) (cwV 2 hts gC_X6_151 rfl rfl rfl (by decide +kernel) ⟨Nat.le_of_ble_eq_true rfl, Nat.le_of_ble_eq_true rfl⟩) hK hW (kW_at rfl) rfl rfl hl.1 rfl (Nat.le_of_ble_eq_true rfl) dX6_settleFirst_113 ⟨Nat.zero_le _, Nat.zero_le _⟩ (fun v_ f_ H locs hp hW => ?_)
              obtain ⟨hpv, hpe⟩ := hp
              rw [hpe] at hW
              have hpv : v_ = some (.int (iI (bI (kFit S (kC1 S (S.1 21 (k)) (Int64.ofInt (S.1 12 (S.1 21 (k)))) (kC1 S k (Int64.ofInt (S.1 12 k)) (flG cX 0 21))) (kQ1 S (S.1 21 (k)) (Int64.ofInt (S.1 12 (S.1 21 (k)))) (kQ1 S k (Int64.ofInt (S.1 12 k)) (flG qX 0 108))) c)))) := hpv
              subst hpv
              refine xi_ifb_eq (tgt := 126) hx hb dX6_settleFirst_116 (by decide) (fun c_11 => ?_) (fun c_11 => ?_)
              · have hxx : kSF S I cX qX b c = none := by
                  unfold kSF
                  dsimp only
                  rw [← hkd, if_neg c_1, if_neg (by rw [c_2]; decide), if_neg c_4, if_neg (fun h => h c_7), if_neg (by rw [c_8]; decide), if_neg (fun h => absurd (h.symm.trans (show kFit S (kD2 S cX k (S.1 21 k)) (kE2 S qX k (S.1 21 k)) (S.1 11 (S.1 21 k)) = true from c_10)) (by decide)), if_neg (fun h => absurd (h.symm.trans (show kFit S (kD2 S cX k (S.1 21 k)) (kE2 S qX k (S.1 21 k)) c = false from c_11)) (by decide))]
                refine xi_iconst hx hb dX6_settleFirst_126 ?_
                exact W.widen (by first | exact Nat.zero_le _ | (rw [hxx]; exact Nat.le_of_eq (Nat.zero_add _))) (by first | exact Nat.zero_le _ | (rw [hxx]; exact Nat.le_of_eq (Nat.zero_add _))) (g_iret hx hb hr hW ⟨bk, _, _, _, by rw [hxx]; rfl, by rw [hxx]; exact hE0, by rw [hxx]; rfl⟩ dX6_settleFirst_127 hlk)
              · have hxx : kSF S I cX qX b c = some (kM2 I k (S.1 21 k)) := by
                  unfold kSF
                  dsimp only
                  rw [← hkd, if_neg c_1, if_neg (by rw [c_2]; decide), if_neg c_4, if_neg (fun h => h c_7), if_neg (by rw [c_8]; decide), if_neg (fun h => absurd (h.symm.trans (show kFit S (kD2 S cX k (S.1 21 k)) (kE2 S qX k (S.1 21 k)) (S.1 11 (S.1 21 k)) = true from c_10)) (by decide)), if_pos (show kFit S (kD2 S cX k (S.1 21 k)) (kE2 S qX k (S.1 21 k)) c = true from c_11)]
                refine lv_aload_n hx hb dX6_settleFirst_119 rfl (lv_at hl 2 rfl) ?_
                refine g_callV (i := 100000 + 1) (As := []) (rest := []) K (c_X6_settleBatch (I := (kM2 I k (S.1 21 k))) hwf ho (kM2_h hwf (hkq.resolve_left c_1).1 c_7) he hG0 hE0) (cwV 0 hts gC_X6_155 rfl rfl rfl (by decide +kernel) ⟨Nat.le_of_ble_eq_true rfl, Nat.le_of_ble_eq_true rfl⟩) hK hW (kW_at rfl) rfl rfl hl.1 rfl (Nat.le_of_ble_eq_true rfl) dX6_settleFirst_120 ⟨by dsimp only; rw [hxx]; exact Nat.le_of_eq (Nat.zero_add _), by dsimp only; rw [hxx]; exact Nat.le_of_eq (Nat.zero_add _)⟩ (fun v_ f_ H locs hp hW => ?_)
                obtain ⟨hpv, bk2, hb2, hpe⟩ := hp
                rw [hpe] at hW
                subst hpv
                refine lv_goto (tgt := 127) hx hb dX6_settleFirst_123 (by decide) ?_
                exact W.widen (by first | exact Nat.zero_le _ | (rw [hxx]; exact Nat.le_of_eq (Nat.zero_add _))) (by first | exact Nat.zero_le _ | (rw [hxx]; exact Nat.le_of_eq (Nat.zero_add _))) (g_iret hx hb hr hW ⟨bk2, _, _, _, by rw [hxx]; rfl, by rw [hxx]; exact hb2, by rw [hxx]; rfl⟩ dX6_settleFirst_127 hlk)
            · have hxx : kSF S I cX qX b c = none := by
                unfold kSF
                dsimp only
                rw [← hkd, if_neg c_1, if_neg (by rw [c_2]; decide), if_neg c_4, if_neg (fun h => h c_7), if_neg (by rw [c_8]; decide), if_pos (show kFit S (kD2 S cX k (S.1 21 k)) (kE2 S qX k (S.1 21 k)) (S.1 11 (S.1 21 k)) = false from c_10)]
              refine xi_iconst hx hb dX6_settleFirst_102 ?_
              exact W.widen (by first | exact Nat.zero_le _ | (rw [hxx]; exact Nat.le_of_eq (Nat.zero_add _))) (by first | exact Nat.zero_le _ | (rw [hxx]; exact Nat.le_of_eq (Nat.zero_add _))) (g_iret hx hb hr hW ⟨bk, _, _, _, by rw [hxx]; rfl, by rw [hxx]; exact hE0, by rw [hxx]; rfl⟩ dX6_settleFirst_103 hlk)
          · have hxx : kSF S I cX qX b c = none := by
              unfold kSF
              dsimp only
              rw [← hkd, if_neg c_1, if_neg (by rw [c_2]; decide), if_neg c_4, if_neg (fun h => h c_7), if_pos c_8]
            refine xi_iconst hx hb dX6_settleFirst_69 ?_
            exact W.widen (by first | exact Nat.zero_le _ | (rw [hxx]; exact Nat.le_of_eq (Nat.zero_add _))) (by first | exact Nat.zero_le _ | (rw [hxx]; exact Nat.le_of_eq (Nat.zero_add _))) (g_iret hx hb hr hW ⟨bk, _, _, _, by rw [hxx]; rfl, by rw [hxx]; exact hE0, by rw [hxx]; rfl⟩ dX6_settleFirst_70 hlk)
    · have hxx : kSF S I cX qX b c = none := by
        unfold kSF
        dsimp only
        rw [← hkd, if_neg c_1, if_pos c_2]
      refine xi_iconst hx hb dX6_settleFirst_23 ?_
      exact W.widen (by first | exact Nat.zero_le _ | (rw [hxx]; exact Nat.le_of_eq (Nat.zero_add _))) (by first | exact Nat.zero_le _ | (rw [hxx]; exact Nat.le_of_eq (Nat.zero_add _))) (g_iret hx hb hr hW ⟨bk, _, _, _, by rw [hxx]; rfl, by rw [hxx]; exact hE0, by rw [hxx]; rfl⟩ dX6_settleFirst_24 hlk)
