def kJ (S : ST) (k u : Int) : Bool := !sEnds S k && !sEnds S u && decide (S.1 21 k = -1) && decide (S.1 21 u = -1) && !decide (S.1 15 k = 0) && !decide (S.1 15 u = 0) && !decide (S.1 11 k = S.1 11 u) && (decide (S.1 9 k = S.1 10 u) && decide (S.1 10 k = S.1 9 u))
set_option maxHeartbeats 4000000 in
set_option maxRecDepth 100000 in
theorem c_X7_canBeLegWith {l : Launch} {D : va_G} {cy : Nat → ClassId} {B0 : Nat} {ad bk : Nat → Nat} {S : ST} {I : Int → Bool} {cX qX : Int → Int64} {G : gF} (k : Int) (u : Int) (hwf : wf S) (h0 : 0 ≤ k) (h1 : k < S.1 8 0) (hu0 : 0 ≤ u) (hu1 : u < S.1 8 0) : gM l yX7_canBeLegWith vX7_canBeLegWith 1 21 D cy B0 [.ref (ad (1000 + 2 * (k).toNat)), .ref (ad (1000 + 2 * (u).toNat))] (kW cy ad bk S (I, cX, qX) G) (fun r g_ => r = some (.int (iI (bI (kJ S k u)))) ∧ g_ = kW cy ad bk S (I, cX, qX) G) 0 0 := by
  refine g_start (cc := cX7_canBeLegWith) (maxL := 2) (ret := (some .boolean)) (by decide) rfl (Nat.le_of_ble_eq_true rfl) ?_
  intro p_ e_ s_ m_ be_ me_ co_ ls H locs K hr hlk hnm hK hW hl
  obtain ⟨hx, hb, hml, hown, hts⟩ := id K
  have hl : lv_has ls 2 [(0, .ref (ad (1000 + 2 * (k).toNat))), (1, .ref (ad (1000 + 2 * (u).toNat)))] := hl
  refine lv_aload_n hx hb dX7_canBeLegWith_0 rfl (lv_at hl 0 rfl) ?_
  refine g_callV (i := 100000 + (1000 + 2 * (k).toNat)) (As := []) (rest := []) K (c_X7_hasEnded (k) hwf (by omega) (by omega)) (cwV 0 hts gC_X7_39 rfl rfl rfl (by decide +kernel) ⟨Nat.le_of_ble_eq_true rfl, Nat.le_of_ble_eq_true rfl⟩) hK hW (kW_at (kC_pay hwf (by omega) (show (k) < S.1 8 0 from by omega))) rfl rfl hl.1 rfl (Nat.le_of_ble_eq_true rfl) dX7_canBeLegWith_1 ⟨Nat.le_refl _, Nat.le_refl _⟩ (fun v_ f_ H locs hp hW => ?_)
  obtain ⟨hpv, hpe⟩ := hp
  rw [hpe] at hW
  have hpv : v_ = some (.int (iI (bI (sEnds S (k))))) := hpv
  subst hpv
  refine xi_ifb_ne (tgt := 83) hx hb dX7_canBeLegWith_4 (by decide) (fun c_1 => ?_) (fun c_1 => ?_)
  · refine xi_iconst hx hb dX7_canBeLegWith_83 ?_
    exact g_zret hx hb hr (Or.inl rfl) hW ⟨congrArg (fun z => some (Value.int (iI z))) (bI_f (by simp only [kJ, c_1, decide_true, decide_false, Bool.true_and, Bool.and_true, Bool.false_and, Bool.and_false, Bool.true_or, Bool.or_true, Bool.false_or, Bool.or_false, Bool.not_true, Bool.not_false, eq_self])), rfl⟩ dX7_canBeLegWith_84 hlk
  · refine lv_aload_n hx hb dX7_canBeLegWith_7 rfl (lv_at hl 1 rfl) ?_
    refine g_callV (i := 100000 + (1000 + 2 * (u).toNat)) (As := []) (rest := []) K (c_X7_hasEnded (u) hwf (by omega) (by omega)) (cwV 0 hts gC_X7_39 rfl rfl rfl (by decide +kernel) ⟨Nat.le_of_ble_eq_true rfl, Nat.le_of_ble_eq_true rfl⟩) hK hW (kW_at (kC_pay hwf (by omega) (show (u) < S.1 8 0 from by omega))) rfl rfl hl.1 rfl (Nat.le_of_ble_eq_true rfl) dX7_canBeLegWith_8 ⟨Nat.le_refl _, Nat.le_refl _⟩ (fun v_ f_ H locs hp hW => ?_)
    obtain ⟨hpv, hpe⟩ := hp
    rw [hpe] at hW
    have hpv : v_ = some (.int (iI (bI (sEnds S (u))))) := hpv
    subst hpv
    refine xi_ifb_ne (tgt := 83) hx hb dX7_canBeLegWith_11 (by decide) (fun c_2 => ?_) (fun c_2 => ?_)
    · refine xi_iconst hx hb dX7_canBeLegWith_83 ?_
      exact g_zret hx hb hr (Or.inl rfl) hW ⟨congrArg (fun z => some (Value.int (iI z))) (bI_f (by simp only [kJ, c_1, c_2, decide_true, decide_false, Bool.true_and, Bool.and_true, Bool.false_and, Bool.and_false, Bool.true_or, Bool.or_true, Bool.false_or, Bool.or_false, Bool.not_true, Bool.not_false, eq_self])), rfl⟩ dX7_canBeLegWith_84 hlk
    · refine lv_aload_n hx hb dX7_canBeLegWith_14 rfl (lv_at hl 0 rfl) ?_
      refine g_get (ref := RX7) (T := TX7) (N := 9) (ci := 8) hx hb hts wsC_X7 hown hK hW (100000 + (1000 + 2 * (k).toNat)) (kW_at (kC_pay hwf (by omega) (show (k) < S.1 8 0 from by omega))) rfl 3 (by decide) (hts _ lC_X7_43) (fun x h => h) (v := pR ad (S.1 21 (k))) rfl dX7_canBeLegWith_15 ?_
      have w_3 := wf_21 hwf (k)
      refine xp_ifnonnull (tgt := 83) hx hb dX7_canBeLegWith_18 (by decide) (fun c_4 => ?_) (fun c_4 => ?_)
      · refine xi_iconst hx hb dX7_canBeLegWith_83 ?_
        exact g_zret hx hb hr (Or.inl rfl) hW ⟨congrArg (fun z => some (Value.int (iI z))) (bI_f (by simp only [kJ, c_1, c_2, c_4, decide_true, decide_false, Bool.true_and, Bool.and_true, Bool.false_and, Bool.and_false, Bool.true_or, Bool.or_true, Bool.false_or, Bool.or_false, Bool.not_true, Bool.not_false, eq_self])), rfl⟩ dX7_canBeLegWith_84 hlk
      · refine lv_aload_n hx hb dX7_canBeLegWith_21 rfl (lv_at hl 1 rfl) ?_
        refine g_get (ref := RX7) (T := TX7) (N := 9) (ci := 8) hx hb hts wsC_X7 hown hK hW (100000 + (1000 + 2 * (u).toNat)) (kW_at (kC_pay hwf (by omega) (show (u) < S.1 8 0 from by omega))) rfl 3 (by decide) (hts _ lC_X7_43) (fun x h => h) (v := pR ad (S.1 21 (u))) rfl dX7_canBeLegWith_22 ?_
        have w_5 := wf_21 hwf (u)
        refine xp_ifnonnull (tgt := 83) hx hb dX7_canBeLegWith_25 (by decide) (fun c_6 => ?_) (fun c_6 => ?_)
        · refine xi_iconst hx hb dX7_canBeLegWith_83 ?_
          exact g_zret hx hb hr (Or.inl rfl) hW ⟨congrArg (fun z => some (Value.int (iI z))) (bI_f (by simp only [kJ, c_1, c_2, c_4, c_6, decide_true, decide_false, Bool.true_and, Bool.and_true, Bool.false_and, Bool.and_false, Bool.true_or, Bool.or_true, Bool.false_or, Bool.or_false, Bool.not_true, Bool.not_false, eq_self])), rfl⟩ dX7_canBeLegWith_84 hlk
        · refine lv_aload_n hx hb dX7_canBeLegWith_28 rfl (lv_at hl 0 rfl) ?_
          refine g_get (ref := RX7) (T := TX7) (N := 9) (ci := 8) hx hb hts wsC_X7 hown hK hW (100000 + (1000 + 2 * (k).toNat)) (kW_at (kC_pay hwf (by omega) (show (k) < S.1 8 0 from by omega))) rfl 1 (by decide) (hts _ lC_X7_27) (fun x h => h) (v := .ref (ad (1001 + 2 * (k).toNat))) rfl dX7_canBeLegWith_29 ?_
          refine g_get (ref := RX10) (T := TX10) (N := 9) (ci := 11) hx hb hts wsC_X10 hown hK hW (100000 + (1001 + 2 * (k).toNat)) (kW_at (kC_trm hwf (by omega) (show (k) < S.1 8 0 from by omega))) rfl 6 (by decide) (hts _ lC_X7_47) (fun x h => h) (v := .int (iI (S.1 15 (k)))) rfl dX7_canBeLegWith_32 ?_
          have w_7 := wf_15 hwf (k)
          refine xi_if_eq (tgt := 83) hx hb ⟨by omega, by omega⟩ dX7_canBeLegWith_35 (by decide) (fun c_8 => ?_) (fun c_8 => ?_)
          · refine xi_iconst hx hb dX7_canBeLegWith_83 ?_
            exact g_zret hx hb hr (Or.inl rfl) hW ⟨congrArg (fun z => some (Value.int (iI z))) (bI_f (by simp only [kJ, c_1, c_2, c_4, c_6, c_8, decide_true, decide_false, Bool.true_and, Bool.and_true, Bool.false_and, Bool.and_false, Bool.true_or, Bool.or_true, Bool.false_or, Bool.or_false, Bool.not_true, Bool.not_false, eq_self])), rfl⟩ dX7_canBeLegWith_84 hlk
          · refine lv_aload_n hx hb dX7_canBeLegWith_38 rfl (lv_at hl 1 rfl) ?_
            refine g_get (ref := RX7) (T := TX7) (N := 9) (ci := 8) hx hb hts wsC_X7 hown hK hW (100000 + (1000 + 2 * (u).toNat)) (kW_at (kC_pay hwf (by omega) (show (u) < S.1 8 0 from by omega))) rfl 1 (by decide) (hts _ lC_X7_27) (fun x h => h) (v := .ref (ad (1001 + 2 * (u).toNat))) rfl dX7_canBeLegWith_39 ?_
            refine g_get (ref := RX10) (T := TX10) (N := 9) (ci := 11) hx hb hts wsC_X10 hown hK hW (100000 + (1001 + 2 * (u).toNat)) (kW_at (kC_trm hwf (by omega) (show (u) < S.1 8 0 from by omega))) rfl 6 (by decide) (hts _ lC_X7_47) (fun x h => h) (v := .int (iI (S.1 15 (u)))) rfl dX7_canBeLegWith_42 ?_
            have w_9 := wf_15 hwf (u)
            refine xi_if_eq (tgt := 83) hx hb ⟨by omega, by omega⟩ dX7_canBeLegWith_45 (by decide) (fun c_10 => ?_) (fun c_10 => ?_)
            · refine xi_iconst hx hb dX7_canBeLegWith_83 ?_
              exact g_zret hx hb hr (Or.inl rfl) hW ⟨congrArg (fun z => some (Value.int (iI z))) (bI_f (by simp only [kJ, c_1, c_2, c_4, c_6, c_8, c_10, decide_true, decide_false, Bool.true_and, Bool.and_true, Bool.false_and, Bool.and_false, Bool.true_or, Bool.or_true, Bool.false_or, Bool.or_false, Bool.not_true, Bool.not_false, eq_self])), rfl⟩ dX7_canBeLegWith_84 hlk
            · refine lv_aload_n hx hb dX7_canBeLegWith_48 rfl (lv_at hl 0 rfl) ?_
              refine g_get (ref := RX7) (T := TX7) (N := 9) (ci := 8) hx hb hts wsC_X7 hown hK hW (100000 + (1000 + 2 * (k).toNat)) (kW_at (kC_pay hwf (by omega) (show (k) < S.1 8 0 from by omega))) rfl 1 (by decide) (hts _ lC_X7_27) (fun x h => h) (v := .ref (ad (1001 + 2 * (k).toNat))) rfl dX7_canBeLegWith_49 ?_
              refine g_get (ref := RX10) (T := TX10) (N := 9) (ci := 11) hx hb hts wsC_X10 hown hK hW (100000 + (1001 + 2 * (k).toNat)) (kW_at (kC_trm hwf (by omega) (show (k) < S.1 8 0 from by omega))) rfl 2 (by decide) (hts _ lC_X7_31) (fun x h => h) (v := .int (iI (S.1 11 (k)))) rfl dX7_canBeLegWith_52 ?_
              have w_11 := wf_11 hwf (k)
              refine lv_aload_n hx hb dX7_canBeLegWith_55 rfl (lv_at hl 1 rfl) ?_
              refine g_get (ref := RX7) (T := TX7) (N := 9) (ci := 8) hx hb hts wsC_X7 hown hK hW (100000 + (1000 + 2 * (u).toNat)) (kW_at (kC_pay hwf (by omega) (show (u) < S.1 8 0 from by omega))) rfl 1 (by decide) (hts _ lC_X7_27) (fun x h => h) (v := .ref (ad (1001 + 2 * (u).toNat))) rfl dX7_canBeLegWith_56 ?_
              refine g_get (ref := RX10) (T := TX10) (N := 9) (ci := 11) hx hb hts wsC_X10 hown hK hW (100000 + (1001 + 2 * (u).toNat)) (kW_at (kC_trm hwf (by omega) (show (u) < S.1 8 0 from by omega))) rfl 2 (by decide) (hts _ lC_X7_31) (fun x h => h) (v := .int (iI (S.1 11 (u)))) rfl dX7_canBeLegWith_59 ?_
              have w_12 := wf_11 hwf (u)
              refine xi_icmp_eq (tgt := 83) hx hb ⟨by omega, by omega⟩ ⟨by omega, by omega⟩ dX7_canBeLegWith_62 (by decide) (fun c_13 => ?_) (fun c_13 => ?_)
              · refine xi_iconst hx hb dX7_canBeLegWith_83 ?_
                exact g_zret hx hb hr (Or.inl rfl) hW ⟨congrArg (fun z => some (Value.int (iI z))) (bI_f (by simp only [kJ, c_1, c_2, c_4, c_6, c_8, c_10, c_13, decide_true, decide_false, Bool.true_and, Bool.and_true, Bool.false_and, Bool.and_false, Bool.true_or, Bool.or_true, Bool.false_or, Bool.or_false, Bool.not_true, Bool.not_false, eq_self])), rfl⟩ dX7_canBeLegWith_84 hlk
              · refine lv_aload_n hx hb dX7_canBeLegWith_65 rfl (lv_at hl 0 rfl) ?_
                refine g_get (ref := RX7) (T := TX7) (N := 9) (ci := 8) hx hb hts wsC_X7 hown hK hW (100000 + (1000 + 2 * (k).toNat)) (kW_at (kC_pay hwf (by omega) (show (k) < S.1 8 0 from by omega))) rfl 1 (by decide) (hts _ lC_X7_27) (fun x h => h) (v := .ref (ad (1001 + 2 * (k).toNat))) rfl dX7_canBeLegWith_66 ?_
                refine lv_aload_n hx hb dX7_canBeLegWith_69 rfl (lv_at hl 1 rfl) ?_
                refine g_get (ref := RX7) (T := TX7) (N := 9) (ci := 8) hx hb hts wsC_X7 hown hK hW (100000 + (1000 + 2 * (u).toNat)) (kW_at (kC_pay hwf (by omega) (show (u) < S.1 8 0 from by omega))) rfl 1 (by decide) (hts _ lC_X7_27) (fun x h => h) (v := .ref (ad (1001 + 2 * (u).toNat))) rfl dX7_canBeLegWith_70 ?_
                refine g_callV (i := 100000 + (1001 + 2 * (k).toNat)) (As := [.ref (ad (1001 + 2 * (u).toNat))]) (rest := []) K (c_X10_isWayBackOf (k) (u) hwf (by omega) (by omega) (by omega) (by omega)) (cwV 1 hts gC_X7_51 rfl rfl rfl (by decide +kernel) ⟨Nat.le_of_ble_eq_true rfl, Nat.le_of_ble_eq_true rfl⟩) hK hW (kW_at (kC_trm hwf (by omega) (show (k) < S.1 8 0 from by omega))) rfl rfl hl.1 rfl (Nat.le_of_ble_eq_true rfl) dX7_canBeLegWith_73 ⟨Nat.le_refl _, Nat.le_refl _⟩ (fun v_ f_ H locs hp hW => ?_)
                obtain ⟨hpv, hpe⟩ := hp
                rw [hpe] at hW
                have hpv : v_ = some (.int (iI (bI (decide (S.1 9 k = S.1 10 u) && decide (S.1 10 k = S.1 9 u))))) := hpv
                subst hpv
                refine xi_ifb_eq (tgt := 83) hx hb dX7_canBeLegWith_76 (by decide) (fun c_14 => ?_) (fun c_14 => ?_)
                · refine xi_iconst hx hb dX7_canBeLegWith_83 ?_
                  exact g_zret hx hb hr (Or.inl rfl) hW ⟨congrArg (fun z => some (Value.int (iI z))) (bI_f (by simp only [kJ, c_1, c_2, c_4, c_6, c_8, c_10, c_13, c_14, decide_true, decide_false, Bool.true_and, Bool.and_true, Bool.false_and, Bool.and_false, Bool.true_or, Bool.or_true, Bool.false_or, Bool.or_false, Bool.not_true, Bool.not_false, eq_self])), rfl⟩ dX7_canBeLegWith_84 hlk
                · refine xi_iconst hx hb dX7_canBeLegWith_79 ?_
                  refine lv_goto (tgt := 84) hx hb dX7_canBeLegWith_80 (by decide) ?_
                  exact g_zret hx hb hr (Or.inr rfl) hW ⟨congrArg (fun z => some (Value.int (iI z))) (bI_t (by simp only [kJ, c_1, c_2, c_4, c_6, c_8, c_10, c_13, c_14, decide_true, decide_false, Bool.true_and, Bool.and_true, Bool.false_and, Bool.and_false, Bool.true_or, Bool.or_true, Bool.false_or, Bool.or_false, Bool.not_true, Bool.not_false, eq_self])), rfl⟩ dX7_canBeLegWith_84 hlk
set_option maxHeartbeats 4000000 in
set_option maxRecDepth 100000 in
theorem c_X7_giveBack {l : Launch} {D : va_G} {cy : Nat → ClassId} {B0 : Nat} {ad bk : Nat → Nat} {S : ST} {I : Int → Bool} {cX qX : Int → Int64} {G : gF} (k : Int) (hwf : wf S) (h0 : 0 ≤ k) (h1 : k < S.1 8 0) (hlg : S.1 21 k ≠ -1 → 0 ≤ S.1 21 k ∧ S.1 21 k < S.1 8 0 ∧ S.1 18 (S.1 21 k) ≠ 4) : gM l yX7_giveBack vX7_giveBack 1 20 D cy B0 [.ref (ad (1000 + 2 * (k).toNat))] (kW cy ad bk S (I, cX, qX) G) (fun r g_ => r = some (.int (iI (sRetN S k))) ∧ g_ = kW cy ad bk (sRet S k) (I, cX, qX) G) 0 0 := by
  refine g_start (cc := cX7_giveBack) (maxL := 1) (ret := (some .int)) (by decide) rfl (Nat.le_of_ble_eq_true rfl) ?_
  intro p_ e_ s_ m_ be_ me_ co_ ls H locs K hr hlk hnm hK hW hl
  obtain ⟨hx, hb, hml, hown, hts⟩ := id K
  have hl : lv_has ls 1 [(0, .ref (ad (1000 + 2 * (k).toNat)))] := hl
  refine lv_aload_n hx hb dX7_giveBack_0 rfl (lv_at hl 0 rfl) ?_
  refine xi_iconst hx hb dX7_giveBack_1 ?_
  refine g_put (ref := RX7) (T := TX7) (N := 9) (ci := 8) (ty := tyX7 2) (v := .int (iI (5))) hx hb hts wsC_X7 tyX7 tyX7_ok nmX7 hown hK hW (100000 + (1000 + 2 * (k).toNat)) (kW_at (kC_pay hwf (by omega) (show (k) < S.1 8 0 from by omega))) rfl 2 (by decide) (hts _ lC_X7_9) (fun x h => h) rfl (by decide +kernel) rfl rfl (by simp [payF]) dX7_giveBack_2 (fun H locs hW => ?_)
  rw [kW_pay hwf (by omega) (show (k) < S.1 8 0 from by omega) (f := 18) (x := 5) rfl (by simp [payF, pI])] at hW
  refine lv_aload_n hx hb dX7_giveBack_5 rfl (lv_at hl 0 rfl) ?_
  refine g_get (ref := RX7) (T := TX7) (N := 9) (ci := 8) hx hb hts wsC_X7 hown hK hW (100000 + (1000 + 2 * (k).toNat)) (kW_at (kC_pay (wf_pI (f := 18) hwf (k) (5) (by simp only [rLo, rHi]; omega)) (by omega) (show (k) < S.1 8 0 from by omega))) rfl 3 (by decide) (hts _ lC_X7_43) (fun x h => h) (v := pR ad (S.1 21 (k))) rfl dX7_giveBack_6 ?_
  have w_1 := wf_21 hwf (k)
  refine xp_ifnull (tgt := 22) hx hb dX7_giveBack_9 (by decide) (fun c_2 => ?_) (fun c_2 => ?_)
  · refine xi_iconst hx hb dX7_giveBack_22 ?_
    exact g_iret hx hb hr hW ⟨by rw [sRetN, if_neg (by simp [sRe1, c_2])], by rw [sRet, if_neg (by simp [sRe1, c_2])]⟩ dX7_giveBack_23 hlk
  · have hnn := c_2
    have hlq := hlg c_2
    refine lv_aload_n hx hb dX7_giveBack_12 rfl (lv_at hl 0 rfl) ?_
    refine g_get (ref := RX7) (T := TX7) (N := 9) (ci := 8) hx hb hts wsC_X7 hown hK hW (100000 + (1000 + 2 * (k).toNat)) (kW_at (kC_pay (wf_pI (f := 18) hwf (k) (5) (by simp only [rLo, rHi]; omega)) (by omega) (show (k) < S.1 8 0 from by omega))) rfl 3 (by decide) (hts _ lC_X7_43) (fun x h => h) (v := pR ad (S.1 21 (k))) rfl dX7_giveBack_13 ?_
    have w_3 := wf_21 hwf (k)
    refine xp_ref (k := S.1 21 (k)) (by omega) ?_
    refine g_callV (i := 100000 + (1000 + 2 * (S.1 21 (k)).toNat)) (As := []) (rest := []) K (c_X7_hasEnded (S.1 21 (k)) (wf_pI (f := 18) hwf (k) (5) (by simp only [rLo, rHi]; omega)) (by omega) (show _ < S.1 8 0 by omega)) (cwV 0 hts gC_X7_39 rfl rfl rfl (by decide +kernel) ⟨Nat.le_of_ble_eq_true rfl, Nat.le_of_ble_eq_true rfl⟩) hK hW (kW_at (kC_pay (wf_pI (f := 18) hwf (k) (5) (by simp only [rLo, rHi]; omega)) (by omega) (show (S.1 21 (k)) < S.1 8 0 from by omega))) rfl rfl hl.1 rfl (Nat.le_of_ble_eq_true rfl) dX7_giveBack_16 ⟨Nat.le_refl _, Nat.le_refl _⟩ (fun v_ f_ H locs hp hW => ?_)
    obtain ⟨hpv, hpe⟩ := hp
    rw [hpe] at hW
    have hpv : v_ = some (.int (iI (bI (sEnds (pI S 18 (k) (5)) (S.1 21 (k)))))) := hpv
    subst hpv
    refine xi_ifb_eq (tgt := 24) hx hb dX7_giveBack_19 (by decide) (fun c_4 => ?_) (fun c_4 => ?_)
    · have h5f : sRe1 S k = true := by
        simp only [sEnds, Bool.or_eq_false_iff, decide_eq_false_iff_not] at c_4
        simp only [sRe1, Bool.and_eq_true, Bool.not_eq_true', decide_eq_false_iff_not]
        exact ⟨hnn, c_4.2⟩
      refine lv_aload_n hx hb dX7_giveBack_24 rfl (lv_at hl 0 rfl) ?_
      refine g_get (ref := RX7) (T := TX7) (N := 9) (ci := 8) hx hb hts wsC_X7 hown hK hW (100000 + (1000 + 2 * (k).toNat)) (kW_at (kC_pay (wf_pI (f := 18) hwf (k) (5) (by simp only [rLo, rHi]; omega)) (by omega) (show (k) < S.1 8 0 from by omega))) rfl 3 (by decide) (hts _ lC_X7_43) (fun x h => h) (v := pR ad (S.1 21 (k))) rfl dX7_giveBack_25 ?_
      have w_5 := wf_21 hwf (k)
      refine xp_ref (k := S.1 21 (k)) (by omega) ?_
      refine xi_iconst hx hb dX7_giveBack_28 ?_
      refine g_put (ref := RX7) (T := TX7) (N := 9) (ci := 8) (ty := tyX7 2) (v := .int (iI (5))) hx hb hts wsC_X7 tyX7 tyX7_ok nmX7 hown hK hW (100000 + (1000 + 2 * (S.1 21 (k)).toNat)) (kW_at (kC_pay (wf_pI (f := 18) hwf (k) (5) (by simp only [rLo, rHi]; omega)) (by omega) (show (S.1 21 (k)) < S.1 8 0 from by omega))) rfl 2 (by decide) (hts _ lC_X7_9) (fun x h => h) rfl (by decide +kernel) rfl rfl (by simp [payF]) dX7_giveBack_29 (fun H locs hW => ?_)
      rw [kW_pay (wf_pI (f := 18) hwf (k) (5) (by simp only [rLo, rHi]; omega)) (by omega) (show (S.1 21 (k)) < S.1 8 0 from by omega) (f := 18) (x := 5) rfl (by simp [payF, pI])] at hW
      refine xi_iconst hx hb dX7_giveBack_32 ?_
      exact g_iret hx hb hr hW ⟨by rw [sRetN, if_pos h5f], by rw [sRet, if_pos h5f]⟩ dX7_giveBack_33 hlk
    · have h5t : sRe1 S k = false := by
        simp only [sEnds, Bool.or_eq_true, decide_eq_true_eq] at c_4
        have h4 : (pI S 18 k 5).1 18 (S.1 21 k) ≠ 4 := by
          by_cases e : S.1 21 k = k
          · rw [e, pI_s]; decide
          · rw [pI_n _ _ _ _ (Or.inr e)]; exact hlq.2.2
        have h5 : (pI S 18 k 5).1 18 (S.1 21 k) = 5 := c_4.resolve_left h4
        simp [sRe1, h5]
      refine xi_iconst hx hb dX7_giveBack_22 ?_
      exact g_iret hx hb hr hW ⟨by rw [sRetN, if_neg (by rw [h5t]; decide)], by rw [sRet, if_neg (by rw [h5t]; decide)]⟩ dX7_giveBack_23 hlk
set_option maxHeartbeats 4000000 in
set_option maxRecDepth 100000 in
theorem c_X6_mayMove {l : Launch} {D : va_G} {cy : Nat → ClassId} {B0 : Nat} {ad bk : Nat → Nat} {S : ST} {I : Int → Bool} {cX qX : Int → Int64} {G : gF} (k : Int) (hwf : wf S) (h0 : 0 ≤ k) (h1 : k < S.1 8 0) : gM l yX6_mayMove vX6_mayMove 3 65 D cy B0 [.ref (ad 1), .ref (ad (1000 + 2 * (k).toNat))] (kW cy ad bk S (I, cX, qX) G) (fun r g_ => r = some (.int (iI (bI (moves S k)))) ∧ g_ = kW cy ad bk S (I, cX, qX) G) 0 0 := by
  refine g_start (cc := cX6_mayMove) (maxL := 2) (ret := (some .boolean)) (by decide) rfl (Nat.le_of_ble_eq_true rfl) ?_
  intro p_ e_ s_ m_ be_ me_ co_ ls H locs K hr hlk hnm hK hW hl
  obtain ⟨hx, hb, hml, hown, hts⟩ := id K
  have hl : lv_has ls 2 [(0, .ref (ad 1)), (1, .ref (ad (1000 + 2 * (k).toNat)))] := hl
  refine lv_aload_n hx hb dX6_mayMove_0 rfl (lv_at hl 0 rfl) ?_
  refine g_get (ref := RX6) (T := TX6) (N := 8) (ci := 7) hx hb hts wsC_X6 hown hK hW (100000 + 1) (kW_at rfl) rfl 0 (by decide) (hts _ lC_X6_12) (fun x h => h) (v := .ref (ad 2)) rfl dX6_mayMove_1 ?_
  refine lv_aload_n hx hb dX6_mayMove_4 rfl (lv_at hl 1 rfl) ?_
  refine g_get (ref := RX7) (T := TX7) (N := 9) (ci := 8) hx hb hts wsC_X7 hown hK hW (100000 + (1000 + 2 * (k).toNat)) (kW_at (kC_pay hwf (by omega) (show (k) < S.1 8 0 from by omega))) rfl 1 (by decide) (hts _ lC_X6_101) (fun x h => h) (v := .ref (ad (1001 + 2 * (k).toNat))) rfl dX6_mayMove_5 ?_
  refine g_get (ref := RX10) (T := TX10) (N := 9) (ci := 11) hx hb hts wsC_X10 hown hK hW (100000 + (1001 + 2 * (k).toNat)) (kW_at (kC_trm hwf (by omega) (show (k) < S.1 8 0 from by omega))) rfl 2 (by decide) (hts _ lC_X6_69) (fun x h => h) (v := .int (iI (S.1 11 (k)))) rfl dX6_mayMove_8 ?_
  have w_1 := wf_11 hwf (k)
  refine g_callV (i := 100000 + 2) (As := [.int (iI (S.1 11 (k)))]) (rest := []) K (c_X4_isOpenToday (S.1 11 (k)) hwf ⟨by omega, by omega⟩) (cwV 1 hts gC_X6_72 rfl rfl rfl (by decide +kernel) ⟨Nat.le_of_ble_eq_true rfl, Nat.le_of_ble_eq_true rfl⟩) hK hW (kW_at rfl) rfl rfl hl.1 rfl (Nat.le_of_ble_eq_true rfl) dX6_mayMove_11 ⟨Nat.le_refl _, Nat.le_refl _⟩ (fun v_ f_ H locs hp hW => ?_)
  obtain ⟨hpv, hpe⟩ := hp
  rw [hpe] at hW
  have hpv : v_ = some (.int (iI (bI (sOpen S (S.1 11 (k)) (S.1 0 0))))) := hpv
  subst hpv
  refine xi_ifb_eq (tgt := 55) hx hb dX6_mayMove_14 (by decide) (fun c_2 => ?_) (fun c_2 => ?_)
  · refine xi_iconst hx hb dX6_mayMove_55 ?_
    exact g_zret hx hb hr (Or.inl rfl) hW ⟨congrArg (fun z => some (Value.int (iI z))) (bI_f (by simp only [moves, c_2, decide_true, decide_false, Bool.true_and, Bool.and_true, Bool.false_and, Bool.and_false, Bool.true_or, Bool.or_true, Bool.false_or, Bool.or_false, Bool.not_true, Bool.not_false, eq_self])), rfl⟩ dX6_mayMove_56 hlk
  · refine lv_aload_n hx hb dX6_mayMove_17 rfl (lv_at hl 0 rfl) ?_
    refine g_get (ref := RX6) (T := TX6) (N := 8) (ci := 7) hx hb hts wsC_X6 hown hK hW (100000 + 1) (kW_at rfl) rfl 4 (by decide) (hts _ lC_X6_44) (fun x h => h) (v := .ref (ad 30)) rfl dX6_mayMove_18 ?_
    refine lv_aload_n hx hb dX6_mayMove_21 rfl (lv_at hl 1 rfl) ?_
    refine g_get (ref := RX7) (T := TX7) (N := 9) (ci := 8) hx hb hts wsC_X7 hown hK hW (100000 + (1000 + 2 * (k).toNat)) (kW_at (kC_pay hwf (by omega) (show (k) < S.1 8 0 from by omega))) rfl 1 (by decide) (hts _ lC_X6_101) (fun x h => h) (v := .ref (ad (1001 + 2 * (k).toNat))) rfl dX6_mayMove_22 ?_
    refine g_get (ref := RX10) (T := TX10) (N := 9) (ci := 11) hx hb hts wsC_X10 hown hK hW (100000 + (1001 + 2 * (k).toNat)) (kW_at (kC_trm hwf (by omega) (show (k) < S.1 8 0 from by omega))) rfl 0 (by decide) (hts _ lC_X6_88) (fun x h => h) (v := .int (iI (S.1 9 (k)))) rfl dX6_mayMove_25 ?_
    have w_3 := wf_9 hwf (k)
    refine g_callV (i := 100000 + 30) (As := [.int (iI (S.1 9 (k)))]) (rest := []) K (c_X9_isSet (i := 100000 + 30) (j := 100000 + (40 + 10)) (S.1 9 (k)) (kW_at rfl) (kW_at (kC_row (r := 10) (by decide))) (by decide) (by decide) (show 0 ≤ (S.1 9 (k)) ∧ (S.1 9 (k)) < ((6 : Nat) : Int) from ⟨by omega, by omega⟩)) (cwV 1 hts gC_X6_108 rfl rfl rfl (by decide +kernel) ⟨Nat.le_of_ble_eq_true rfl, Nat.le_of_ble_eq_true rfl⟩) hK hW (kW_at rfl) rfl rfl hl.1 rfl (Nat.le_of_ble_eq_true rfl) dX6_mayMove_28 ⟨Nat.le_refl _, Nat.le_refl _⟩ (fun v_ f_ H locs hp hW => ?_)
    obtain ⟨hpv, hpe⟩ := hp
    rw [hpe] at hW
    have w_4 := wf_5 hwf (S.1 9 (k))
    have hpv : v_ = some (.int (iI (bI (!decide (Int64.ofInt (S.1 5 (S.1 9 (k))) = 0))))) := hpv
    rw [show decide (Int64.ofInt (S.1 5 (S.1 9 (k))) = 0) = decide ((S.1 5 (S.1 9 (k))) = 0) from decide_eq_decide.mpr (ofInt_0 ⟨by omega, by omega⟩)] at hpv
    subst hpv
    refine xi_ifb_ne (tgt := 55) hx hb dX6_mayMove_31 (by decide) (fun c_5 => ?_) (fun c_5 => ?_)
    · have c_5n : ¬ ((S.1 5 (S.1 9 (k))) = 0) := by simpa using c_5
      refine xi_iconst hx hb dX6_mayMove_55 ?_
      exact g_zret hx hb hr (Or.inl rfl) hW ⟨congrArg (fun z => some (Value.int (iI z))) (bI_f (by simp only [moves, c_2, c_5n, decide_true, decide_false, Bool.true_and, Bool.and_true, Bool.false_and, Bool.and_false, Bool.true_or, Bool.or_true, Bool.false_or, Bool.or_false, Bool.not_true, Bool.not_false, eq_self])), rfl⟩ dX6_mayMove_56 hlk
    · have c_5n : ((S.1 5 (S.1 9 (k))) = 0) := by simpa using c_5
      refine lv_aload_n hx hb dX6_mayMove_34 rfl (lv_at hl 0 rfl) ?_
      refine g_get (ref := RX6) (T := TX6) (N := 8) (ci := 7) hx hb hts wsC_X6 hown hK hW (100000 + 1) (kW_at rfl) rfl 4 (by decide) (hts _ lC_X6_44) (fun x h => h) (v := .ref (ad 30)) rfl dX6_mayMove_35 ?_
      refine lv_aload_n hx hb dX6_mayMove_38 rfl (lv_at hl 1 rfl) ?_
      refine g_get (ref := RX7) (T := TX7) (N := 9) (ci := 8) hx hb hts wsC_X7 hown hK hW (100000 + (1000 + 2 * (k).toNat)) (kW_at (kC_pay hwf (by omega) (show (k) < S.1 8 0 from by omega))) rfl 1 (by decide) (hts _ lC_X6_101) (fun x h => h) (v := .ref (ad (1001 + 2 * (k).toNat))) rfl dX6_mayMove_39 ?_
      refine g_get (ref := RX10) (T := TX10) (N := 9) (ci := 11) hx hb hts wsC_X10 hown hK hW (100000 + (1001 + 2 * (k).toNat)) (kW_at (kC_trm hwf (by omega) (show (k) < S.1 8 0 from by omega))) rfl 1 (by decide) (hts _ lC_X6_85) (fun x h => h) (v := .int (iI (S.1 10 (k)))) rfl dX6_mayMove_42 ?_
      have w_6 := wf_10 hwf (k)
      refine g_callV (i := 100000 + 30) (As := [.int (iI (S.1 10 (k)))]) (rest := []) K (c_X9_isSet (i := 100000 + 30) (j := 100000 + (40 + 10)) (S.1 10 (k)) (kW_at rfl) (kW_at (kC_row (r := 10) (by decide))) (by decide) (by decide) (show 0 ≤ (S.1 10 (k)) ∧ (S.1 10 (k)) < ((6 : Nat) : Int) from ⟨by omega, by omega⟩)) (cwV 1 hts gC_X6_108 rfl rfl rfl (by decide +kernel) ⟨Nat.le_of_ble_eq_true rfl, Nat.le_of_ble_eq_true rfl⟩) hK hW (kW_at rfl) rfl rfl hl.1 rfl (Nat.le_of_ble_eq_true rfl) dX6_mayMove_45 ⟨Nat.le_refl _, Nat.le_refl _⟩ (fun v_ f_ H locs hp hW => ?_)
      obtain ⟨hpv, hpe⟩ := hp
      rw [hpe] at hW
      have w_7 := wf_5 hwf (S.1 10 (k))
      have hpv : v_ = some (.int (iI (bI (!decide (Int64.ofInt (S.1 5 (S.1 10 (k))) = 0))))) := hpv
      rw [show decide (Int64.ofInt (S.1 5 (S.1 10 (k))) = 0) = decide ((S.1 5 (S.1 10 (k))) = 0) from decide_eq_decide.mpr (ofInt_0 ⟨by omega, by omega⟩)] at hpv
      subst hpv
      refine xi_ifb_ne (tgt := 55) hx hb dX6_mayMove_48 (by decide) (fun c_8 => ?_) (fun c_8 => ?_)
      · have c_8n : ¬ ((S.1 5 (S.1 10 (k))) = 0) := by simpa using c_8
        refine xi_iconst hx hb dX6_mayMove_55 ?_
        exact g_zret hx hb hr (Or.inl rfl) hW ⟨congrArg (fun z => some (Value.int (iI z))) (bI_f (by simp only [moves, c_2, c_5n, c_8n, decide_true, decide_false, Bool.true_and, Bool.and_true, Bool.false_and, Bool.and_false, Bool.true_or, Bool.or_true, Bool.false_or, Bool.or_false, Bool.not_true, Bool.not_false, eq_self])), rfl⟩ dX6_mayMove_56 hlk
      · have c_8n : ((S.1 5 (S.1 10 (k))) = 0) := by simpa using c_8
        refine xi_iconst hx hb dX6_mayMove_51 ?_
        refine lv_goto (tgt := 56) hx hb dX6_mayMove_52 (by decide) ?_
        exact g_zret hx hb hr (Or.inr rfl) hW ⟨congrArg (fun z => some (Value.int (iI z))) (bI_t (by simp only [moves, c_2, c_5n, c_8n, decide_true, decide_false, Bool.true_and, Bool.and_true, Bool.false_and, Bool.and_false, Bool.true_or, Bool.or_true, Bool.false_or, Bool.or_false, Bool.not_true, Bool.not_false, eq_self])), rfl⟩ dX6_mayMove_56 hlk
set_option maxHeartbeats 4000000 in
set_option maxRecDepth 100000 in
theorem c_X6_letEnter {l : Launch} {D : va_G} {cy : Nat → ClassId} {B0 : Nat} {ad bk : Nat → Nat} {S : ST} {I : Int → Bool} {cX qX : Int → Int64} {G : gF} (k : Int) (hwf : wf S) (h0 : 0 ≤ k) (h1 : k < S.1 8 0) : gM l yX6_letEnter vX6_letEnter 1 21 D cy B0 [.ref (ad 1), .ref (ad (1000 + 2 * (k).toNat))] (kW cy ad bk S (I, cX, qX) G) (fun r g_ => r = none ∧ g_ = kW cy ad bk (sEnter S k) (I, cX, qX) G) 0 0 := by
  refine g_start (cc := cX6_letEnter) (maxL := 2) (ret := none) (by decide) rfl (Nat.le_of_ble_eq_true rfl) ?_
  intro p_ e_ s_ m_ be_ me_ co_ ls H locs K hr hlk hnm hK hW hl
  obtain ⟨hx, hb, hml, hown, hts⟩ := id K
  have hl : lv_has ls 2 [(0, .ref (ad 1)), (1, .ref (ad (1000 + 2 * (k).toNat)))] := hl
  refine lv_aload_n hx hb dX6_letEnter_0 rfl (lv_at hl 0 rfl) ?_
  refine g_get (ref := RX6) (T := TX6) (N := 8) (ci := 7) hx hb hts wsC_X6 hown hK hW (100000 + 1) (kW_at rfl) rfl 5 (by decide) (hts _ lC_X6_48) (fun x h => h) (v := .ref (ad 31)) rfl dX6_letEnter_1 ?_
  refine lv_aload_n hx hb dX6_letEnter_4 rfl (lv_at hl 1 rfl) ?_
  refine g_get (ref := RX7) (T := TX7) (N := 9) (ci := 8) hx hb hts wsC_X7 hown hK hW (100000 + (1000 + 2 * (k).toNat)) (kW_at (kC_pay hwf (by omega) (show (k) < S.1 8 0 from by omega))) rfl 1 (by decide) (hts _ lC_X6_101) (fun x h => h) (v := .ref (ad (1001 + 2 * (k).toNat))) rfl dX6_letEnter_5 ?_
  refine g_get (ref := RX10) (T := TX10) (N := 9) (ci := 11) hx hb hts wsC_X10 hown hK hW (100000 + (1001 + 2 * (k).toNat)) (kW_at (kC_trm hwf (by omega) (show (k) < S.1 8 0 from by omega))) rfl 4 (by decide) (hts _ lC_X6_105) (fun x h => h) (v := .int (iI (S.1 13 (k)))) rfl dX6_letEnter_8 ?_
  have w_1 := wf_13 hwf (k)
  refine g_callV (i := 100000 + 31) (As := [.int (iI (S.1 13 (k)))]) (rest := []) K (c_X9_isSet (i := 100000 + 31) (j := 100000 + (40 + 11)) (S.1 13 (k)) (kW_at rfl) (kW_at (kC_row (r := 11) (by decide))) (by decide) (by decide) (show 0 ≤ (S.1 13 (k)) ∧ (S.1 13 (k)) < ((20 : Nat) : Int) from ⟨by omega, by omega⟩)) (cwV 1 hts gC_X6_108 rfl rfl rfl (by decide +kernel) ⟨Nat.le_of_ble_eq_true rfl, Nat.le_of_ble_eq_true rfl⟩) hK hW (kW_at rfl) rfl rfl hl.1 rfl (Nat.le_of_ble_eq_true rfl) dX6_letEnter_11 ⟨Nat.le_refl _, Nat.le_refl _⟩ (fun v_ f_ H locs hp hW => ?_)
  obtain ⟨hpv, hpe⟩ := hp
  rw [hpe] at hW
  have w_2 := wf_7 hwf (S.1 13 (k))
  have hpv : v_ = some (.int (iI (bI (!decide (Int64.ofInt (S.1 7 (S.1 13 (k))) = 0))))) := hpv
  rw [show decide (Int64.ofInt (S.1 7 (S.1 13 (k))) = 0) = decide ((S.1 7 (S.1 13 (k))) = 0) from decide_eq_decide.mpr (ofInt_0 ⟨by omega, by omega⟩)] at hpv
  subst hpv
  refine xi_ifb_eq (tgt := 32) hx hb dX6_letEnter_14 (by decide) (fun c_3 => ?_) (fun c_3 => ?_)
  · have c_3n : ((S.1 7 (S.1 13 (k))) = 0) := by simpa using c_3
    refine lv_aload_n hx hb dX6_letEnter_32 rfl (lv_at hl 1 rfl) ?_
    refine lv_aload_n hx hb dX6_letEnter_33 rfl (lv_at hl 1 rfl) ?_
    refine g_get (ref := RX7) (T := TX7) (N := 9) (ci := 8) hx hb hts wsC_X7 hown hK hW (100000 + (1000 + 2 * (k).toNat)) (kW_at (kC_pay hwf (by omega) (show (k) < S.1 8 0 from by omega))) rfl 1 (by decide) (hts _ lC_X6_101) (fun x h => h) (v := .ref (ad (1001 + 2 * (k).toNat))) rfl dX6_letEnter_34 ?_
    refine g_get (ref := RX10) (T := TX10) (N := 9) (ci := 11) hx hb hts wsC_X10 hown hK hW (100000 + (1001 + 2 * (k).toNat)) (kW_at (kC_trm hwf (by omega) (show (k) < S.1 8 0 from by omega))) rfl 6 (by decide) (hts _ lC_X6_118) (fun x h => h) (v := .int (iI (S.1 15 (k)))) rfl dX6_letEnter_37 ?_
    have w_4 := wf_15 hwf (k)
    refine xi_if_eq (tgt := 47) hx hb ⟨by omega, by omega⟩ dX6_letEnter_40 (by decide) (fun c_5 => ?_) (fun c_5 => ?_)
    · refine xi_iconst hx hb dX6_letEnter_47 ?_
      refine g_put (ref := RX7) (T := TX7) (N := 9) (ci := 8) (ty := tyX7 2) (v := .int (iI (3))) hx hb hts wsC_X7 tyX7 tyX7_ok nmX7 hown hK hW (100000 + (1000 + 2 * (k).toNat)) (kW_at (kC_pay hwf (by omega) (show (k) < S.1 8 0 from by omega))) rfl 2 (by decide) (hts _ lC_X6_115) (fun x h => h) rfl (by decide +kernel) rfl rfl (by simp [payF]) dX6_letEnter_48 (fun H locs hW => ?_)
      rw [kW_pay hwf (by omega) (show (k) < S.1 8 0 from by omega) (f := 18) (x := 3) rfl (by simp [payF, pI])] at hW
      exact g_vret hx hb hr hW ⟨rfl, by simp only [sEnter, sEntV, c_3n, c_5, decide_true, decide_false, Bool.true_and, Bool.and_true, Bool.false_and, Bool.and_false, Bool.true_or, Bool.or_true, Bool.false_or, Bool.or_false, Bool.not_true, Bool.not_false, eq_self, if_true, if_false, ite_true, ite_false, Bool.false_eq_true, reduceCtorEq, not_false_eq_true]⟩ dX6_letEnter_51 hlk
    · refine xi_iconst hx hb dX6_letEnter_43 ?_
      refine lv_goto (tgt := 48) hx hb dX6_letEnter_44 (by decide) ?_
      refine g_put (ref := RX7) (T := TX7) (N := 9) (ci := 8) (ty := tyX7 2) (v := .int (iI (2))) hx hb hts wsC_X7 tyX7 tyX7_ok nmX7 hown hK hW (100000 + (1000 + 2 * (k).toNat)) (kW_at (kC_pay hwf (by omega) (show (k) < S.1 8 0 from by omega))) rfl 2 (by decide) (hts _ lC_X6_115) (fun x h => h) rfl (by decide +kernel) rfl rfl (by simp [payF]) dX6_letEnter_48 (fun H locs hW => ?_)
      rw [kW_pay hwf (by omega) (show (k) < S.1 8 0 from by omega) (f := 18) (x := 2) rfl (by simp [payF, pI])] at hW
      exact g_vret hx hb hr hW ⟨rfl, by simp only [sEnter, sEntV, c_3n, c_5, decide_true, decide_false, Bool.true_and, Bool.and_true, Bool.false_and, Bool.and_false, Bool.true_or, Bool.or_true, Bool.false_or, Bool.or_false, Bool.not_true, Bool.not_false, eq_self, if_true, if_false, ite_true, ite_false, Bool.false_eq_true, reduceCtorEq, not_false_eq_true]⟩ dX6_letEnter_51 hlk
  · have c_3n : ¬ ((S.1 7 (S.1 13 (k))) = 0) := by simpa using c_3
    refine lv_aload_n hx hb dX6_letEnter_17 rfl (lv_at hl 1 rfl) ?_
    refine g_get (ref := RX7) (T := TX7) (N := 9) (ci := 8) hx hb hts wsC_X7 hown hK hW (100000 + (1000 + 2 * (k).toNat)) (kW_at (kC_pay hwf (by omega) (show (k) < S.1 8 0 from by omega))) rfl 5 (by decide) (hts _ lC_X6_111) (fun x h => h) (v := .int (iI (S.1 19 (k)))) rfl dX6_letEnter_18 ?_
    have w_6 := wf_19 hwf (k)
    refine xi_if_ne (tgt := 32) hx hb ⟨by omega, by omega⟩ dX6_letEnter_21 (by decide) (fun c_7 => ?_) (fun c_7 => ?_)
    · refine lv_aload_n hx hb dX6_letEnter_32 rfl (lv_at hl 1 rfl) ?_
      refine lv_aload_n hx hb dX6_letEnter_33 rfl (lv_at hl 1 rfl) ?_
      refine g_get (ref := RX7) (T := TX7) (N := 9) (ci := 8) hx hb hts wsC_X7 hown hK hW (100000 + (1000 + 2 * (k).toNat)) (kW_at (kC_pay hwf (by omega) (show (k) < S.1 8 0 from by omega))) rfl 1 (by decide) (hts _ lC_X6_101) (fun x h => h) (v := .ref (ad (1001 + 2 * (k).toNat))) rfl dX6_letEnter_34 ?_
      refine g_get (ref := RX10) (T := TX10) (N := 9) (ci := 11) hx hb hts wsC_X10 hown hK hW (100000 + (1001 + 2 * (k).toNat)) (kW_at (kC_trm hwf (by omega) (show (k) < S.1 8 0 from by omega))) rfl 6 (by decide) (hts _ lC_X6_118) (fun x h => h) (v := .int (iI (S.1 15 (k)))) rfl dX6_letEnter_37 ?_
      have w_8 := wf_15 hwf (k)
      refine xi_if_eq (tgt := 47) hx hb ⟨by omega, by omega⟩ dX6_letEnter_40 (by decide) (fun c_9 => ?_) (fun c_9 => ?_)
      · refine xi_iconst hx hb dX6_letEnter_47 ?_
        refine g_put (ref := RX7) (T := TX7) (N := 9) (ci := 8) (ty := tyX7 2) (v := .int (iI (3))) hx hb hts wsC_X7 tyX7 tyX7_ok nmX7 hown hK hW (100000 + (1000 + 2 * (k).toNat)) (kW_at (kC_pay hwf (by omega) (show (k) < S.1 8 0 from by omega))) rfl 2 (by decide) (hts _ lC_X6_115) (fun x h => h) rfl (by decide +kernel) rfl rfl (by simp [payF]) dX6_letEnter_48 (fun H locs hW => ?_)
        rw [kW_pay hwf (by omega) (show (k) < S.1 8 0 from by omega) (f := 18) (x := 3) rfl (by simp [payF, pI])] at hW
        exact g_vret hx hb hr hW ⟨rfl, by simp only [sEnter, sEntV, c_3n, c_7, c_9, decide_true, decide_false, Bool.true_and, Bool.and_true, Bool.false_and, Bool.and_false, Bool.true_or, Bool.or_true, Bool.false_or, Bool.or_false, Bool.not_true, Bool.not_false, eq_self, if_true, if_false, ite_true, ite_false, Bool.false_eq_true, reduceCtorEq, not_false_eq_true]⟩ dX6_letEnter_51 hlk
      · refine xi_iconst hx hb dX6_letEnter_43 ?_
        refine lv_goto (tgt := 48) hx hb dX6_letEnter_44 (by decide) ?_
        refine g_put (ref := RX7) (T := TX7) (N := 9) (ci := 8) (ty := tyX7 2) (v := .int (iI (2))) hx hb hts wsC_X7 tyX7 tyX7_ok nmX7 hown hK hW (100000 + (1000 + 2 * (k).toNat)) (kW_at (kC_pay hwf (by omega) (show (k) < S.1 8 0 from by omega))) rfl 2 (by decide) (hts _ lC_X6_115) (fun x h => h) rfl (by decide +kernel) rfl rfl (by simp [payF]) dX6_letEnter_48 (fun H locs hW => ?_)
        rw [kW_pay hwf (by omega) (show (k) < S.1 8 0 from by omega) (f := 18) (x := 2) rfl (by simp [payF, pI])] at hW
        exact g_vret hx hb hr hW ⟨rfl, by simp only [sEnter, sEntV, c_3n, c_7, c_9, decide_true, decide_false, Bool.true_and, Bool.and_true, Bool.false_and, Bool.and_false, Bool.true_or, Bool.or_true, Bool.false_or, Bool.or_false, Bool.not_true, Bool.not_false, eq_self, if_true, if_false, ite_true, ite_false, Bool.false_eq_true, reduceCtorEq, not_false_eq_true]⟩ dX6_letEnter_51 hlk
    · refine lv_aload_n hx hb dX6_letEnter_24 rfl (lv_at hl 1 rfl) ?_
      refine xi_iconst hx hb dX6_letEnter_25 ?_
      refine g_put (ref := RX7) (T := TX7) (N := 9) (ci := 8) (ty := tyX7 2) (v := .int (iI (1))) hx hb hts wsC_X7 tyX7 tyX7_ok nmX7 hown hK hW (100000 + (1000 + 2 * (k).toNat)) (kW_at (kC_pay hwf (by omega) (show (k) < S.1 8 0 from by omega))) rfl 2 (by decide) (hts _ lC_X6_115) (fun x h => h) rfl (by decide +kernel) rfl rfl (by simp [payF]) dX6_letEnter_26 (fun H locs hW => ?_)
      rw [kW_pay hwf (by omega) (show (k) < S.1 8 0 from by omega) (f := 18) (x := 1) rfl (by simp [payF, pI])] at hW
      refine lv_goto (tgt := 51) hx hb dX6_letEnter_29 (by decide) ?_
      exact g_vret hx hb hr hW ⟨rfl, by simp only [sEnter, sEntV, c_3n, c_7, decide_true, decide_false, Bool.true_and, Bool.and_true, Bool.false_and, Bool.and_false, Bool.true_or, Bool.or_true, Bool.false_or, Bool.or_false, Bool.not_true, Bool.not_false, eq_self, if_true, if_false, ite_true, ite_false, Bool.false_eq_true, reduceCtorEq, not_false_eq_true]⟩ dX6_letEnter_51 hlk
def kAdd (c : Int → Int64) (i : Int) (v : Int64) : Int → Int64 := lup c i (c i + v)
def kC1 (S : ST) (k : Int) (v : Int64) (c : Int → Int64) : Int → Int64 := kAdd (kAdd c (3 * S.1 9 k + S.1 11 k) (-v)) (3 * S.1 10 k + S.1 11 k) v
def kQ1 (S : ST) (k : Int) (v : Int64) (q : Int → Int64) : Int → Int64 := kAdd (kAdd q (3 * (6 * S.1 9 k + S.1 10 k) + S.1 11 k) v) (3 * (6 * S.1 10 k + S.1 9 k) + S.1 11 k) (-v)
set_option maxHeartbeats 4000000 in
set_option maxRecDepth 100000 in
theorem c_X2_has {l : Launch} {D : va_G} {cy : Nat → ClassId} {B0 : Nat} {ad bk : Nat → Nat} {S : ST} {I : Int → Bool} {cX qX : Int → Int64} {G : gF} (k : Int) (hwf : wf S) (h0 : 0 ≤ k) (h1 : k < S.1 8 0) : gM l yX2_has vX2_has 1 21 D cy B0 [.ref (ad 7), .ref (ad (1000 + 2 * (k).toNat))] (kW cy ad bk S (I, cX, qX) G) (fun r g_ => r = some (.int (iI (bI (I k)))) ∧ g_ = kW cy ad bk S (I, cX, qX) G) 0 0 := by
  refine g_start (cc := cX2_has) (maxL := 2) (ret := (some .boolean)) (by decide) rfl (Nat.le_of_ble_eq_true rfl) ?_
  intro p_ e_ s_ m_ be_ me_ co_ ls H locs K hr hlk hnm hK hW hl
  obtain ⟨hx, hb, hml, hown, hts⟩ := id K
  have hl : lv_has ls 2 [(0, .ref (ad 7)), (1, .ref (ad (1000 + 2 * (k).toNat)))] := hl
  have h8 := wf_8 hwf 0
  refine lv_aload_n hx hb dX2_has_0 rfl (lv_at hl 0 rfl) ?_
  refine g_get (ref := RX2) (T := TX2) (N := 3) (ci := 3) hx hb hts wsC_X2 hown hK hW (100000 + 7) (kW_at rfl) rfl 0 (by decide) (hts _ lC_X2_14) (fun x h => h) (v := .ref (ad 32)) rfl dX2_has_1 ?_
  refine lv_aload_n hx hb dX2_has_4 rfl (lv_at hl 1 rfl) ?_
  refine g_get (ref := RX7) (T := TX7) (N := 9) (ci := 8) hx hb hts wsC_X7 hown hK hW (100000 + (1000 + 2 * (k).toNat)) (kW_at (kC_pay hwf (by omega) (show (k) < S.1 8 0 from by omega))) rfl 0 (by decide) (hts _ lC_X2_30) (fun x h => h) (v := .int (iI (k))) rfl dX2_has_5 ?_
  refine g_callV (i := 100000 + 32) (As := [.int (iI (k))]) (rest := []) K (c_X9_isSet (i := 100000 + 32) (j := 100000 + (40 + 12)) (k) (kW_at rfl) (kW_at (kC_row (r := 12) (by decide))) (by decide) (by decide) (show 0 ≤ (k) ∧ (k) < ((60 : Nat) : Int) from ⟨by omega, by omega⟩)) (cwV 1 hts gC_X2_36 rfl rfl rfl (by decide +kernel) ⟨Nat.le_of_ble_eq_true rfl, Nat.le_of_ble_eq_true rfl⟩) hK hW (kW_at rfl) rfl rfl hl.1 rfl (Nat.le_of_ble_eq_true rfl) dX2_has_8 ⟨Nat.le_refl _, Nat.le_refl _⟩ (fun v_ f_ H locs hp hW => ?_)
  obtain ⟨hpv, hpe⟩ := hp
  rw [hpe] at hW
  have hpv : v_ = some (.int (iI (bI (I (k))))) := hpv.trans (show some (Value.int (iI (bI (!decide (Int64.ofInt (bI (I (k))) = 0))))) = _ by rw [isM])
  subst hpv
  exact g_zret hx hb hr (bI_01 _) hW ⟨rfl, rfl⟩ dX2_has_11 hlk
set_option maxHeartbeats 4000000 in
set_option maxRecDepth 100000 in
theorem c_X2_count {l : Launch} {D : va_G} {cy : Nat → ClassId} {B0 : Nat} {ad bk : Nat → Nat} {S : ST} {I : Int → Bool} {cX qX : Int → Int64} {G : gF} (k : Int) (v : Int64) (hwf : wf S) (h0 : 0 ≤ k) (h1 : k < S.1 8 0) : gM l yX2_count vX2_count 1 23 D cy B0 [.ref (ad 7), .ref (ad (1001 + 2 * (k).toNat)), .long (v)] (kW cy ad bk S (I, cX, qX) G) (fun r g_ => r = none ∧ g_ = kW cy ad bk S (I, kC1 S k v cX, kQ1 S k v qX) G) 0 0 := by
  refine g_start (cc := cX2_count) (maxL := 4) (ret := none) (by decide) rfl (Nat.le_of_ble_eq_true rfl) ?_
  intro p_ e_ s_ m_ be_ me_ co_ ls H locs K hr hlk hnm hK hW hl
  obtain ⟨hx, hb, hml, hown, hts⟩ := id K
  have hl : lv_has ls 4 [(0, .ref (ad 7)), (1, .ref (ad (1001 + 2 * (k).toNat))), (2, .long (v))] := hl
  refine lv_aload_n hx hb dX2_count_0 rfl (lv_at hl 0 rfl) ?_
  refine g_get (ref := RX2) (T := TX2) (N := 3) (ci := 3) hx hb hts wsC_X2 hown hK hW (100000 + 7) (kW_at rfl) rfl 1 (by decide) (hts _ lC_X2_20) (fun x h => h) (v := .ref (ad 33)) rfl dX2_count_1 ?_
  refine lv_aload_n hx hb dX2_count_4 rfl (lv_at hl 1 rfl) ?_
  refine g_get (ref := RX10) (T := TX10) (N := 9) (ci := 11) hx hb hts wsC_X10 hown hK hW (100000 + (1001 + 2 * (k).toNat)) (kW_at (kC_trm hwf (by omega) (show (k) < S.1 8 0 from by omega))) rfl 0 (by decide) (hts _ lC_X2_57) (fun x h => h) (v := .int (iI (S.1 9 (k)))) rfl dX2_count_5 ?_
  have w_1 := wf_9 hwf (k)
  refine lv_aload_n hx hb dX2_count_8 rfl (lv_at hl 1 rfl) ?_
  refine g_get (ref := RX10) (T := TX10) (N := 9) (ci := 11) hx hb hts wsC_X10 hown hK hW (100000 + (1001 + 2 * (k).toNat)) (kW_at (kC_trm hwf (by omega) (show (k) < S.1 8 0 from by omega))) rfl 2 (by decide) (hts _ lC_X2_60) (fun x h => h) (v := .int (iI (S.1 11 (k)))) rfl dX2_count_9 ?_
  have w_2 := wf_11 hwf (k)
  refine g_callSN (As := [.int (iI (S.1 9 (k))), .int (iI (S.1 11 (k)))]) (rest := [.ref (ad 33)]) K (c_X11_accountSlot (S.1 9 (k)) (S.1 11 (k))) ⟨va_cnB 2 hts gC_X11_accountSlot rfl rfl rfl (hK.2.1 _ (List.mem_of_getElem? (i := 4) rfl)) (hts _ iC_X11) (by decide +kernel) ⟨Nat.le_of_ble_eq_true rfl, Nat.le_of_ble_eq_true rfl⟩, hts _ sC_X11_accountSlot, trivial⟩ hK hW rfl hl.1 rfl (Nat.le_of_ble_eq_true rfl) dX2_count_12 ⟨Nat.le_refl _, Nat.le_refl _⟩ (fun v_ f_ H locs hp hW => ?_)
  obtain ⟨hpv, hpe⟩ := hp
  rw [hpe] at hW
  subst hpv
  refine lv_lload_n hx hb dX2_count_15 rfl (lv_at hl 2 rfl) ?_
  refine lv_lneg hx hb dX2_count_16 ?_
  refine g_callV (i := 100000 + 33) (As := [.int (iI (3 * (S.1 9 (k)) + (S.1 11 (k)))), .long (-v)]) (rest := []) K (c_X9_add (i := 100000 + 33) (j := 100000 + (40 + 13)) (3 * (S.1 9 (k)) + (S.1 11 (k))) (-v) (kW_at rfl) (kW_at (kC_row (r := 13) (by decide))) (by decide) (by decide) (show 0 ≤ (3 * (S.1 9 (k)) + (S.1 11 (k))) ∧ (3 * (S.1 9 (k)) + (S.1 11 (k))) < ((21 : Nat) : Int) from ⟨by omega, by omega⟩)) (cwV 2 hts gC_X2_67 rfl rfl rfl (by decide +kernel) ⟨Nat.le_of_ble_eq_true rfl, Nat.le_of_ble_eq_true rfl⟩) hK hW (kW_at rfl) rfl rfl hl.1 rfl (Nat.le_of_ble_eq_true rfl) dX2_count_17 ⟨Nat.le_refl _, Nat.le_refl _⟩ (fun v_ f_ H locs hp hW => ?_)
  obtain ⟨hpv, hpe⟩ := hp
  rw [hpe.trans (kW_x13 (cy := cy) (ad := ad) (bk := bk) (S := S) (G := G) (g := (lup cX (3 * (S.1 9 (k)) + (S.1 11 (k))) (cX (3 * (S.1 9 (k)) + (S.1 11 (k))) + (-v)))))] at hW
  subst hpv
  refine lv_aload_n hx hb dX2_count_20 rfl (lv_at hl 0 rfl) ?_
  refine g_get (ref := RX2) (T := TX2) (N := 3) (ci := 3) hx hb hts wsC_X2 hown hK hW (100000 + 7) (kW_at rfl) rfl 1 (by decide) (hts _ lC_X2_20) (fun x h => h) (v := .ref (ad 33)) rfl dX2_count_21 ?_
  refine lv_aload_n hx hb dX2_count_24 rfl (lv_at hl 1 rfl) ?_
  refine g_get (ref := RX10) (T := TX10) (N := 9) (ci := 11) hx hb hts wsC_X10 hown hK hW (100000 + (1001 + 2 * (k).toNat)) (kW_at (kC_trm hwf (by omega) (show (k) < S.1 8 0 from by omega))) rfl 1 (by decide) (hts _ lC_X2_71) (fun x h => h) (v := .int (iI (S.1 10 (k)))) rfl dX2_count_25 ?_
  have w_3 := wf_10 hwf (k)
  refine lv_aload_n hx hb dX2_count_28 rfl (lv_at hl 1 rfl) ?_
  refine g_get (ref := RX10) (T := TX10) (N := 9) (ci := 11) hx hb hts wsC_X10 hown hK hW (100000 + (1001 + 2 * (k).toNat)) (kW_at (kC_trm hwf (by omega) (show (k) < S.1 8 0 from by omega))) rfl 2 (by decide) (hts _ lC_X2_60) (fun x h => h) (v := .int (iI (S.1 11 (k)))) rfl dX2_count_29 ?_
  have w_4 := wf_11 hwf (k)
  refine g_callSN (As := [.int (iI (S.1 10 (k))), .int (iI (S.1 11 (k)))]) (rest := [.ref (ad 33)]) K (c_X11_accountSlot (S.1 10 (k)) (S.1 11 (k))) ⟨va_cnB 2 hts gC_X11_accountSlot rfl rfl rfl (hK.2.1 _ (List.mem_of_getElem? (i := 4) rfl)) (hts _ iC_X11) (by decide +kernel) ⟨Nat.le_of_ble_eq_true rfl, Nat.le_of_ble_eq_true rfl⟩, hts _ sC_X11_accountSlot, trivial⟩ hK hW rfl hl.1 rfl (Nat.le_of_ble_eq_true rfl) dX2_count_32 ⟨Nat.le_refl _, Nat.le_refl _⟩ (fun v_ f_ H locs hp hW => ?_)
  obtain ⟨hpv, hpe⟩ := hp
  rw [hpe] at hW
  subst hpv
  refine lv_lload_n hx hb dX2_count_35 rfl (lv_at hl 2 rfl) ?_
  refine g_callV (i := 100000 + 33) (As := [.int (iI (3 * (S.1 10 (k)) + (S.1 11 (k)))), .long (v)]) (rest := []) K (c_X9_add (i := 100000 + 33) (j := 100000 + (40 + 13)) (3 * (S.1 10 (k)) + (S.1 11 (k))) (v) (kW_at rfl) (kW_at (kC_row (r := 13) (by decide))) (by decide) (by decide) (show 0 ≤ (3 * (S.1 10 (k)) + (S.1 11 (k))) ∧ (3 * (S.1 10 (k)) + (S.1 11 (k))) < ((21 : Nat) : Int) from ⟨by omega, by omega⟩)) (cwV 2 hts gC_X2_67 rfl rfl rfl (by decide +kernel) ⟨Nat.le_of_ble_eq_true rfl, Nat.le_of_ble_eq_true rfl⟩) hK hW (kW_at rfl) rfl rfl hl.1 rfl (Nat.le_of_ble_eq_true rfl) dX2_count_36 ⟨Nat.le_refl _, Nat.le_refl _⟩ (fun v_ f_ H locs hp hW => ?_)
  obtain ⟨hpv, hpe⟩ := hp
  rw [hpe.trans (kW_x13 (cy := cy) (ad := ad) (bk := bk) (S := S) (G := G) (g := (lup (lup cX (3 * (S.1 9 (k)) + (S.1 11 (k))) (cX (3 * (S.1 9 (k)) + (S.1 11 (k))) + (-v))) (3 * (S.1 10 (k)) + (S.1 11 (k))) ((lup cX (3 * (S.1 9 (k)) + (S.1 11 (k))) (cX (3 * (S.1 9 (k)) + (S.1 11 (k))) + (-v))) (3 * (S.1 10 (k)) + (S.1 11 (k))) + v))))] at hW
  subst hpv
  refine lv_aload_n hx hb dX2_count_39 rfl (lv_at hl 0 rfl) ?_
  refine g_get (ref := RX2) (T := TX2) (N := 3) (ci := 3) hx hb hts wsC_X2 hown hK hW (100000 + 7) (kW_at rfl) rfl 2 (by decide) (hts _ lC_X2_23) (fun x h => h) (v := .ref (ad 34)) rfl dX2_count_40 ?_
  refine lv_aload_n hx hb dX2_count_43 rfl (lv_at hl 1 rfl) ?_
  refine g_get (ref := RX10) (T := TX10) (N := 9) (ci := 11) hx hb hts wsC_X10 hown hK hW (100000 + (1001 + 2 * (k).toNat)) (kW_at (kC_trm hwf (by omega) (show (k) < S.1 8 0 from by omega))) rfl 0 (by decide) (hts _ lC_X2_57) (fun x h => h) (v := .int (iI (S.1 9 (k)))) rfl dX2_count_44 ?_
  have w_5 := wf_9 hwf (k)
  refine lv_aload_n hx hb dX2_count_47 rfl (lv_at hl 1 rfl) ?_
  refine g_get (ref := RX10) (T := TX10) (N := 9) (ci := 11) hx hb hts wsC_X10 hown hK hW (100000 + (1001 + 2 * (k).toNat)) (kW_at (kC_trm hwf (by omega) (show (k) < S.1 8 0 from by omega))) rfl 1 (by decide) (hts _ lC_X2_71) (fun x h => h) (v := .int (iI (S.1 10 (k)))) rfl dX2_count_48 ?_
  have w_6 := wf_10 hwf (k)
  refine lv_aload_n hx hb dX2_count_51 rfl (lv_at hl 1 rfl) ?_
  refine g_get (ref := RX10) (T := TX10) (N := 9) (ci := 11) hx hb hts wsC_X10 hown hK hW (100000 + (1001 + 2 * (k).toNat)) (kW_at (kC_trm hwf (by omega) (show (k) < S.1 8 0 from by omega))) rfl 2 (by decide) (hts _ lC_X2_60) (fun x h => h) (v := .int (iI (S.1 11 (k)))) rfl dX2_count_52 ?_
  have w_7 := wf_11 hwf (k)
  refine g_callSN (As := [.int (iI (S.1 9 (k))), .int (iI (S.1 10 (k))), .int (iI (S.1 11 (k)))]) (rest := [.ref (ad 34)]) K (c_X11_pairSlot (S.1 9 (k)) (S.1 10 (k)) (S.1 11 (k))) ⟨va_cnB 3 hts gC_X11_pairSlot rfl rfl rfl (hK.2.1 _ (List.mem_of_getElem? (i := 5) rfl)) (hts _ iC_X11) (by decide +kernel) ⟨Nat.le_of_ble_eq_true rfl, Nat.le_of_ble_eq_true rfl⟩, hts _ sC_X11_pairSlot, trivial⟩ hK hW rfl hl.1 rfl (Nat.le_of_ble_eq_true rfl) dX2_count_55 ⟨Nat.le_refl _, Nat.le_refl _⟩ (fun v_ f_ H locs hp hW => ?_)
  obtain ⟨hpv, hpe⟩ := hp
  rw [hpe] at hW
  subst hpv
  refine lv_lload_n hx hb dX2_count_58 rfl (lv_at hl 2 rfl) ?_
  refine g_callV (i := 100000 + 34) (As := [.int (iI (3 * (6 * (S.1 9 (k)) + (S.1 10 (k))) + (S.1 11 (k)))), .long (v)]) (rest := []) K (c_X9_add (i := 100000 + 34) (j := 100000 + (40 + 14)) (3 * (6 * (S.1 9 (k)) + (S.1 10 (k))) + (S.1 11 (k))) (v) (kW_at rfl) (kW_at (kC_row (r := 14) (by decide))) (by decide) (by decide) (show 0 ≤ (3 * (6 * (S.1 9 (k)) + (S.1 10 (k))) + (S.1 11 (k))) ∧ (3 * (6 * (S.1 9 (k)) + (S.1 10 (k))) + (S.1 11 (k))) < ((108 : Nat) : Int) from ⟨by omega, by omega⟩)) (cwV 2 hts gC_X2_67 rfl rfl rfl (by decide +kernel) ⟨Nat.le_of_ble_eq_true rfl, Nat.le_of_ble_eq_true rfl⟩) hK hW (kW_at rfl) rfl rfl hl.1 rfl (Nat.le_of_ble_eq_true rfl) dX2_count_59 ⟨Nat.le_refl _, Nat.le_refl _⟩ (fun v_ f_ H locs hp hW => ?_)
  obtain ⟨hpv, hpe⟩ := hp
  rw [hpe.trans (kW_x14 (cy := cy) (ad := ad) (bk := bk) (S := S) (G := G) (g := (lup qX (3 * (6 * (S.1 9 (k)) + (S.1 10 (k))) + (S.1 11 (k))) (qX (3 * (6 * (S.1 9 (k)) + (S.1 10 (k))) + (S.1 11 (k))) + v))))] at hW
  subst hpv
  refine lv_aload_n hx hb dX2_count_62 rfl (lv_at hl 0 rfl) ?_
  refine g_get (ref := RX2) (T := TX2) (N := 3) (ci := 3) hx hb hts wsC_X2 hown hK hW (100000 + 7) (kW_at rfl) rfl 2 (by decide) (hts _ lC_X2_23) (fun x h => h) (v := .ref (ad 34)) rfl dX2_count_63 ?_
  refine lv_aload_n hx hb dX2_count_66 rfl (lv_at hl 1 rfl) ?_
  refine g_get (ref := RX10) (T := TX10) (N := 9) (ci := 11) hx hb hts wsC_X10 hown hK hW (100000 + (1001 + 2 * (k).toNat)) (kW_at (kC_trm hwf (by omega) (show (k) < S.1 8 0 from by omega))) rfl 1 (by decide) (hts _ lC_X2_71) (fun x h => h) (v := .int (iI (S.1 10 (k)))) rfl dX2_count_67 ?_
  have w_8 := wf_10 hwf (k)
  refine lv_aload_n hx hb dX2_count_70 rfl (lv_at hl 1 rfl) ?_
  refine g_get (ref := RX10) (T := TX10) (N := 9) (ci := 11) hx hb hts wsC_X10 hown hK hW (100000 + (1001 + 2 * (k).toNat)) (kW_at (kC_trm hwf (by omega) (show (k) < S.1 8 0 from by omega))) rfl 0 (by decide) (hts _ lC_X2_57) (fun x h => h) (v := .int (iI (S.1 9 (k)))) rfl dX2_count_71 ?_
  have w_9 := wf_9 hwf (k)
  refine lv_aload_n hx hb dX2_count_74 rfl (lv_at hl 1 rfl) ?_
  refine g_get (ref := RX10) (T := TX10) (N := 9) (ci := 11) hx hb hts wsC_X10 hown hK hW (100000 + (1001 + 2 * (k).toNat)) (kW_at (kC_trm hwf (by omega) (show (k) < S.1 8 0 from by omega))) rfl 2 (by decide) (hts _ lC_X2_60) (fun x h => h) (v := .int (iI (S.1 11 (k)))) rfl dX2_count_75 ?_
  have w_10 := wf_11 hwf (k)
  refine g_callSN (As := [.int (iI (S.1 10 (k))), .int (iI (S.1 9 (k))), .int (iI (S.1 11 (k)))]) (rest := [.ref (ad 34)]) K (c_X11_pairSlot (S.1 10 (k)) (S.1 9 (k)) (S.1 11 (k))) ⟨va_cnB 3 hts gC_X11_pairSlot rfl rfl rfl (hK.2.1 _ (List.mem_of_getElem? (i := 5) rfl)) (hts _ iC_X11) (by decide +kernel) ⟨Nat.le_of_ble_eq_true rfl, Nat.le_of_ble_eq_true rfl⟩, hts _ sC_X11_pairSlot, trivial⟩ hK hW rfl hl.1 rfl (Nat.le_of_ble_eq_true rfl) dX2_count_78 ⟨Nat.le_refl _, Nat.le_refl _⟩ (fun v_ f_ H locs hp hW => ?_)
  obtain ⟨hpv, hpe⟩ := hp
  rw [hpe] at hW
  subst hpv
  refine lv_lload_n hx hb dX2_count_81 rfl (lv_at hl 2 rfl) ?_
  refine lv_lneg hx hb dX2_count_82 ?_
  refine g_callV (i := 100000 + 34) (As := [.int (iI (3 * (6 * (S.1 10 (k)) + (S.1 9 (k))) + (S.1 11 (k)))), .long (-v)]) (rest := []) K (c_X9_add (i := 100000 + 34) (j := 100000 + (40 + 14)) (3 * (6 * (S.1 10 (k)) + (S.1 9 (k))) + (S.1 11 (k))) (-v) (kW_at rfl) (kW_at (kC_row (r := 14) (by decide))) (by decide) (by decide) (show 0 ≤ (3 * (6 * (S.1 10 (k)) + (S.1 9 (k))) + (S.1 11 (k))) ∧ (3 * (6 * (S.1 10 (k)) + (S.1 9 (k))) + (S.1 11 (k))) < ((108 : Nat) : Int) from ⟨by omega, by omega⟩)) (cwV 2 hts gC_X2_67 rfl rfl rfl (by decide +kernel) ⟨Nat.le_of_ble_eq_true rfl, Nat.le_of_ble_eq_true rfl⟩) hK hW (kW_at rfl) rfl rfl hl.1 rfl (Nat.le_of_ble_eq_true rfl) dX2_count_83 ⟨Nat.le_refl _, Nat.le_refl _⟩ (fun v_ f_ H locs hp hW => ?_)
  obtain ⟨hpv, hpe⟩ := hp
  rw [hpe.trans (kW_x14 (cy := cy) (ad := ad) (bk := bk) (S := S) (G := G) (g := (lup (lup qX (3 * (6 * (S.1 9 (k)) + (S.1 10 (k))) + (S.1 11 (k))) (qX (3 * (6 * (S.1 9 (k)) + (S.1 10 (k))) + (S.1 11 (k))) + v)) (3 * (6 * (S.1 10 (k)) + (S.1 9 (k))) + (S.1 11 (k))) ((lup qX (3 * (6 * (S.1 9 (k)) + (S.1 10 (k))) + (S.1 11 (k))) (qX (3 * (6 * (S.1 9 (k)) + (S.1 10 (k))) + (S.1 11 (k))) + v)) (3 * (6 * (S.1 10 (k)) + (S.1 9 (k))) + (S.1 11 (k))) + (-v)))))] at hW
  subst hpv
  exact g_vret hx hb hr hW ⟨rfl, rfl⟩ dX2_count_86 hlk
set_option maxHeartbeats 4000000 in
set_option maxRecDepth 100000 in
theorem c_X2_put {l : Launch} {D : va_G} {cy : Nat → ClassId} {B0 : Nat} {ad bk : Nat → Nat} {S : ST} {I : Int → Bool} {cX qX : Int → Int64} {G : gF} (k : Int) (hwf : wf S) (h0 : 0 ≤ k) (h1 : k < S.1 8 0) : gM l yX2_put vX2_put 2 46 D cy B0 [.ref (ad 7), .ref (ad (1000 + 2 * (k).toNat))] (kW cy ad bk S (I, cX, qX) G) (fun r g_ => r = none ∧ g_ = kW cy ad bk S (iup I k true, kC1 S k (Int64.ofInt (S.1 12 k)) cX, kQ1 S k (Int64.ofInt (S.1 12 k)) qX) G) 0 0 := by
  refine g_start (cc := cX2_put) (maxL := 2) (ret := none) (by decide) rfl (Nat.le_of_ble_eq_true rfl) ?_
  intro p_ e_ s_ m_ be_ me_ co_ ls H locs K hr hlk hnm hK hW hl
  obtain ⟨hx, hb, hml, hown, hts⟩ := id K
  have hl : lv_has ls 2 [(0, .ref (ad 7)), (1, .ref (ad (1000 + 2 * (k).toNat)))] := hl
  have h8 := wf_8 hwf 0
  refine lv_aload_n hx hb dX2_put_0 rfl (lv_at hl 0 rfl) ?_
  refine g_get (ref := RX2) (T := TX2) (N := 3) (ci := 3) hx hb hts wsC_X2 hown hK hW (100000 + 7) (kW_at rfl) rfl 0 (by decide) (hts _ lC_X2_14) (fun x h => h) (v := .ref (ad 32)) rfl dX2_put_1 ?_
  refine lv_aload_n hx hb dX2_put_4 rfl (lv_at hl 1 rfl) ?_
  refine g_get (ref := RX7) (T := TX7) (N := 9) (ci := 8) hx hb hts wsC_X7 hown hK hW (100000 + (1000 + 2 * (k).toNat)) (kW_at (kC_pay hwf (by omega) (show (k) < S.1 8 0 from by omega))) rfl 0 (by decide) (hts _ lC_X2_30) (fun x h => h) (v := .int (iI (k))) rfl dX2_put_5 ?_
  refine xi_iconst hx hb dX2_put_8 ?_
  refine g_callV (i := 100000 + 32) (As := [.int (iI (k)), .int (iI (1))]) (rest := []) K (c_X9_mark (i := 100000 + 32) (j := 100000 + (40 + 12)) (k) (true) (kW_at rfl) (kW_at (kC_row (r := 12) (by decide))) (by decide) (by decide) (show 0 ≤ (k) ∧ (k) < ((60 : Nat) : Int) from ⟨by omega, by omega⟩)) (cwV 2 hts gC_X2_40 rfl rfl rfl (by decide +kernel) ⟨Nat.le_of_ble_eq_true rfl, Nat.le_of_ble_eq_true rfl⟩) hK hW (kW_at rfl) rfl rfl hl.1 rfl (Nat.le_of_ble_eq_true rfl) dX2_put_9 ⟨Nat.le_refl _, Nat.le_refl _⟩ (fun v_ f_ H locs hp hW => ?_)
  obtain ⟨hpv, hpe⟩ := hp
  rw [hpe.trans (kW_x12 (cy := cy) (ad := ad) (bk := bk) (S := S) (G := G) (J := (iup I (k) true)) (mark_12 _ _ _))] at hW
  subst hpv
  refine lv_aload_n hx hb dX2_put_12 rfl (lv_at hl 0 rfl) ?_
  refine lv_aload_n hx hb dX2_put_13 rfl (lv_at hl 1 rfl) ?_
  refine g_get (ref := RX7) (T := TX7) (N := 9) (ci := 8) hx hb hts wsC_X7 hown hK hW (100000 + (1000 + 2 * (k).toNat)) (kW_at (kC_pay hwf (by omega) (show (k) < S.1 8 0 from by omega))) rfl 1 (by decide) (hts _ lC_X2_44) (fun x h => h) (v := .ref (ad (1001 + 2 * (k).toNat))) rfl dX2_put_14 ?_
  refine lv_aload_n hx hb dX2_put_17 rfl (lv_at hl 1 rfl) ?_
  refine g_get (ref := RX7) (T := TX7) (N := 9) (ci := 8) hx hb hts wsC_X7 hown hK hW (100000 + (1000 + 2 * (k).toNat)) (kW_at (kC_pay hwf (by omega) (show (k) < S.1 8 0 from by omega))) rfl 1 (by decide) (hts _ lC_X2_44) (fun x h => h) (v := .ref (ad (1001 + 2 * (k).toNat))) rfl dX2_put_18 ?_
  refine g_get (ref := RX10) (T := TX10) (N := 9) (ci := 11) hx hb hts wsC_X10 hown hK hW (100000 + (1001 + 2 * (k).toNat)) (kW_at (kC_trm hwf (by omega) (show (k) < S.1 8 0 from by omega))) rfl 3 (by decide) (hts _ lC_X2_48) (fun x h => h) (v := .int (iI (S.1 12 (k)))) rfl dX2_put_21 ?_
  have w_1 := wf_12 hwf (k)
  refine xi_i2l hx hb ⟨by omega, by omega⟩ dX2_put_24 ?_
  refine g_callV (i := 100000 + 7) (As := [.ref (ad (1001 + 2 * (k).toNat)), .long (Int64.ofInt (S.1 12 (k)))]) (rest := []) K (c_X2_count (k) (Int64.ofInt (S.1 12 (k))) hwf (by omega) (by omega)) (cwV 2 hts gC_X2_53 rfl rfl rfl (by decide +kernel) ⟨Nat.le_of_ble_eq_true rfl, Nat.le_of_ble_eq_true rfl⟩) hK hW (kW_at rfl) rfl rfl hl.1 rfl (Nat.le_of_ble_eq_true rfl) dX2_put_25 ⟨Nat.le_refl _, Nat.le_refl _⟩ (fun v_ f_ H locs hp hW => ?_)
  obtain ⟨hpv, hpe⟩ := hp
  rw [hpe] at hW
  subst hpv
  exact g_vret hx hb hr hW ⟨rfl, rfl⟩ dX2_put_28 hlk
set_option maxHeartbeats 4000000 in
set_option maxRecDepth 100000 in
theorem c_X2_drop {l : Launch} {D : va_G} {cy : Nat → ClassId} {B0 : Nat} {ad bk : Nat → Nat} {S : ST} {I : Int → Bool} {cX qX : Int → Int64} {G : gF} (k : Int) (hwf : wf S) (h0 : 0 ≤ k) (h1 : k < S.1 8 0) : gM l yX2_drop vX2_drop 2 46 D cy B0 [.ref (ad 7), .ref (ad (1000 + 2 * (k).toNat))] (kW cy ad bk S (I, cX, qX) G) (fun r g_ => r = none ∧ g_ = kW cy ad bk S (iup I k false, kC1 S k (Int64.ofInt (-(S.1 12 k))) cX, kQ1 S k (Int64.ofInt (-(S.1 12 k))) qX) G) 0 0 := by
  refine g_start (cc := cX2_drop) (maxL := 2) (ret := none) (by decide) rfl (Nat.le_of_ble_eq_true rfl) ?_
  intro p_ e_ s_ m_ be_ me_ co_ ls H locs K hr hlk hnm hK hW hl
  obtain ⟨hx, hb, hml, hown, hts⟩ := id K
  have hl : lv_has ls 2 [(0, .ref (ad 7)), (1, .ref (ad (1000 + 2 * (k).toNat)))] := hl
  have h8 := wf_8 hwf 0
  refine lv_aload_n hx hb dX2_drop_0 rfl (lv_at hl 0 rfl) ?_
  refine g_get (ref := RX2) (T := TX2) (N := 3) (ci := 3) hx hb hts wsC_X2 hown hK hW (100000 + 7) (kW_at rfl) rfl 0 (by decide) (hts _ lC_X2_14) (fun x h => h) (v := .ref (ad 32)) rfl dX2_drop_1 ?_
  refine lv_aload_n hx hb dX2_drop_4 rfl (lv_at hl 1 rfl) ?_
  refine g_get (ref := RX7) (T := TX7) (N := 9) (ci := 8) hx hb hts wsC_X7 hown hK hW (100000 + (1000 + 2 * (k).toNat)) (kW_at (kC_pay hwf (by omega) (show (k) < S.1 8 0 from by omega))) rfl 0 (by decide) (hts _ lC_X2_30) (fun x h => h) (v := .int (iI (k))) rfl dX2_drop_5 ?_
  refine xi_iconst hx hb dX2_drop_8 ?_
  refine g_callV (i := 100000 + 32) (As := [.int (iI (k)), .int (iI (0))]) (rest := []) K (c_X9_mark (i := 100000 + 32) (j := 100000 + (40 + 12)) (k) (false) (kW_at rfl) (kW_at (kC_row (r := 12) (by decide))) (by decide) (by decide) (show 0 ≤ (k) ∧ (k) < ((60 : Nat) : Int) from ⟨by omega, by omega⟩)) (cwV 2 hts gC_X2_40 rfl rfl rfl (by decide +kernel) ⟨Nat.le_of_ble_eq_true rfl, Nat.le_of_ble_eq_true rfl⟩) hK hW (kW_at rfl) rfl rfl hl.1 rfl (Nat.le_of_ble_eq_true rfl) dX2_drop_9 ⟨Nat.le_refl _, Nat.le_refl _⟩ (fun v_ f_ H locs hp hW => ?_)
  obtain ⟨hpv, hpe⟩ := hp
  rw [hpe.trans (kW_x12 (cy := cy) (ad := ad) (bk := bk) (S := S) (G := G) (J := (iup I (k) false)) (mark_12 _ _ _))] at hW
  subst hpv
  refine lv_aload_n hx hb dX2_drop_12 rfl (lv_at hl 0 rfl) ?_
  refine lv_aload_n hx hb dX2_drop_13 rfl (lv_at hl 1 rfl) ?_
  refine g_get (ref := RX7) (T := TX7) (N := 9) (ci := 8) hx hb hts wsC_X7 hown hK hW (100000 + (1000 + 2 * (k).toNat)) (kW_at (kC_pay hwf (by omega) (show (k) < S.1 8 0 from by omega))) rfl 1 (by decide) (hts _ lC_X2_44) (fun x h => h) (v := .ref (ad (1001 + 2 * (k).toNat))) rfl dX2_drop_14 ?_
  refine lv_aload_n hx hb dX2_drop_17 rfl (lv_at hl 1 rfl) ?_
  refine g_get (ref := RX7) (T := TX7) (N := 9) (ci := 8) hx hb hts wsC_X7 hown hK hW (100000 + (1000 + 2 * (k).toNat)) (kW_at (kC_pay hwf (by omega) (show (k) < S.1 8 0 from by omega))) rfl 1 (by decide) (hts _ lC_X2_44) (fun x h => h) (v := .ref (ad (1001 + 2 * (k).toNat))) rfl dX2_drop_18 ?_
  refine g_get (ref := RX10) (T := TX10) (N := 9) (ci := 11) hx hb hts wsC_X10 hown hK hW (100000 + (1001 + 2 * (k).toNat)) (kW_at (kC_trm hwf (by omega) (show (k) < S.1 8 0 from by omega))) rfl 3 (by decide) (hts _ lC_X2_48) (fun x h => h) (v := .int (iI (S.1 12 (k)))) rfl dX2_drop_21 ?_
  have w_1 := wf_12 hwf (k)
  refine xi_ineg hx hb dX2_drop_24 ?_
  refine xi_i2l hx hb ⟨by omega, by omega⟩ dX2_drop_25 ?_
  refine g_callV (i := 100000 + 7) (As := [.ref (ad (1001 + 2 * (k).toNat)), .long (Int64.ofInt (-(S.1 12 (k))))]) (rest := []) K (c_X2_count (k) (Int64.ofInt (-(S.1 12 (k)))) hwf (by omega) (by omega)) (cwV 2 hts gC_X2_53 rfl rfl rfl (by decide +kernel) ⟨Nat.le_of_ble_eq_true rfl, Nat.le_of_ble_eq_true rfl⟩) hK hW (kW_at rfl) rfl rfl hl.1 rfl (Nat.le_of_ble_eq_true rfl) dX2_drop_26 ⟨Nat.le_refl _, Nat.le_refl _⟩ (fun v_ f_ H locs hp hW => ?_)
  obtain ⟨hpv, hpe⟩ := hp
  rw [hpe] at hW
  subst hpv
  exact g_vret hx hb hr hW ⟨rfl, rfl⟩ dX2_drop_29 hlk
def fiF (p : Int → Bool) : Nat → Int
  | 0 => -1
  | n + 1 => if fiF p n = -1 then (if p n = true then (n : Int) else -1) else fiF p n
theorem fiF_hit {p : Int → Bool} {k : Nat} (h : fiF p k = -1) (hp : p k = true) : ∀ n : Nat, k < n → fiF p n = k
  | 0, hn => by omega
  | n + 1, hn => by
    unfold fiF
    by_cases e : n = k
    · subst e
      rw [if_pos h, if_pos hp]
    · have ih := fiF_hit h hp n (by omega)
      rw [ih, if_neg (by omega)]
theorem fiF_s {p : Int → Bool} {k : Int} (h0 : 0 ≤ k) (h : fiF p k.toNat = -1) (hp : p k = false) : fiF p (k + 1).toNat = -1 := by
  rw [show (k + 1).toNat = k.toNat + 1 by omega]
  unfold fiF
  rw [if_pos h, if_neg (by rw [show ((k.toNat : Nat) : Int) = k by omega, hp]; decide)]
theorem fiF_at {p : Int → Bool} {k : Int} {n : Nat} (h0 : 0 ≤ k) (h1 : k < n) (h : fiF p k.toNat = -1) (hp : p k = true) : fiF p n = k := by
  rw [fiF_hit (k := k.toNat) h (by rw [show ((k.toNat : Nat) : Int) = k by omega]; exact hp) n (by omega)]
  omega
theorem alB_k {p : Int → Bool} {k : Int} (h0 : 0 ≤ k) (h : alB p k.toNat = true) (hp : p k = true) : alB p (k + 1).toNat = true := by
  rw [show (k + 1).toNat = k.toNat + 1 by omega]
  unfold alB
  rw [h, show ((k.toNat : Nat) : Int) = k by omega, hp]
  rfl
theorem alB_no {p : Int → Bool} {k : Int} {n : Nat} (h0 : 0 ≤ k) (h1 : k < n) (h : p k = false) : alB p n = false := by
  cases e : alB p n with
  | false => rfl
  | true => rw [(alB_iff p n).mp e k h0 h1] at h; cases h
def kLo (S : ST) (c : Int) (a : Int → Int64) : Int := fiF (fun b => kLow S (3 * b + c) (a (3 * b + c))) 6
def kPa (S : ST) (q : Int → Int64) (b u c : Int) : Bool := kPas S (3 * (6 * b + u) + c) (q (3 * (6 * b + u) + c))
def kFit (S : ST) (a q : Int → Int64) (c : Int) : Bool := decide (kLo S c a = -1) && alB (fun b => alB (fun u => !kPa S q b u c) 6) 6
set_option maxHeartbeats 4000000 in
set_option maxRecDepth 100000 in
theorem c_X2_lowestTooLow {l : Launch} {D : va_G} {cy : Nat → ClassId} {B0 : Nat} {ad bk : Nat → Nat} {S : ST} {I : Int → Bool} {cX qX : Int → Int64} {G : gF} (c : Int) (hwf : wf S) (hc : 0 ≤ c ∧ c ≤ 2) : gM l yX2_lowestTooLow vX2_lowestTooLow 2 44 D cy B0 [.ref (ad 7), .ref (ad 3), .int (iI (c))] (kW cy ad bk S (I, cX, qX) G) (fun r g_ => r = some (.int (iI (kLo S c cX))) ∧ g_ = kW cy ad bk S (I, cX, qX) G) 0 0 := by
  refine g_start (cc := cX2_lowestTooLow) (maxL := 5) (ret := (some .int)) (by decide) rfl (Nat.le_of_ble_eq_true rfl) ?_
  intro p_ e_ s_ m_ be_ me_ co_ ls H locs K hr hlk hnm hK hW hl
  obtain ⟨hx, hb, hml, hown, hts⟩ := id K
  have hl : lv_has ls 5 [(0, .ref (ad 7)), (1, .ref (ad 3)), (2, .int (iI (c)))] := hl
  refine xi_iconst hx hb dX2_lowestTooLow_0 ?_
  refine lv_istore_n (lv' := [(3, .int (iI (0))), (0, .ref (ad 7)), (1, .ref (ad 3)), (2, .int (iI (c)))]) hx hb dX2_lowestTooLow_1 rfl hl (by decide) rfl (fun ls hl => ?_)
  refine lp_w1 (Wg := fun (H : Heap) (locs : List Loc) (ls : Array Slot) => W p_ l e_ { frames := 2, cells := 0, slots := 0, locals := 44 } s_ m_ ([.ref (ad 7), .ref (ad 3), .int (iI (c))] : List Value).toArray be_ me_ co_ H locs 0 0 (MQ be_ (gQ D B0 (fun (r : Option Value) (g_ : gF) => r = some (.int (iI (kLo S c cX))) ∧ g_ = kW cy ad bk S (I, cX, qX) G)) ([.ref (ad 7), .ref (ad 3), .int (iI (c))] : List Value).toArray s_ 0 0 (fun q : Nat => B0 ≤ q)) (F0 m_ 2 ls [])) (fun (k : Int) (H : Heap) (locs : List Loc) (ls : Array Slot) => ((0 ≤ k ∧ k ≤ 6) ∧ fiF (fun b => kLow S (3 * b + c) (cX (3 * b + c))) k.toNat = -1) ∧ gW D B0 s_ (kW cy ad bk S (I, cX, qX) G) H locs ∧ lv_has ls 5 [(3, .int (iI (k))), (2, .int (iI (c))), (1, .ref (ad 3)), (0, .ref (ad 7))]) (fun (k : Int) => (6 - k).toNat) (fun k H locs ls hI ih_lp_1 => ?_) (0) _ _ _ ⟨⟨by decide, rfl⟩, hW, lv_sub hl [0, 3, 2, 1] rfl⟩
  obtain ⟨hI_lp_1, hW, hl⟩ := hI
  obtain ⟨hk, hLo⟩ := hI_lp_1
  refine lv_iload_n hx hb dX2_lowestTooLow_2 rfl (lv_at hl 0 rfl) ?_
  refine xi_bipush hx hb dX2_lowestTooLow_3 (by decide) ?_
  refine xi_icmp_ge (tgt := 41) hx hb ⟨by omega, by omega⟩ ⟨by omega, by omega⟩ dX2_lowestTooLow_5 (by decide) (fun c_2 => ?_) (fun c_2 => ?_)
  · refine xi_iconst hx hb dX2_lowestTooLow_41 ?_
    exact g_iret hx hb hr hW ⟨by rw [kLo, ← hLo, show k.toNat = 6 by omega], rfl⟩ dX2_lowestTooLow_42 hlk
  · refine lv_iload_n hx hb dX2_lowestTooLow_8 rfl (lv_at hl 0 rfl) ?_
    refine lv_iload_n hx hb dX2_lowestTooLow_9 rfl (lv_at hl 1 rfl) ?_
    refine g_callSN (As := [.int (iI (k)), .int (iI (c))]) (rest := []) K (c_X11_accountSlot (k) (c)) ⟨va_cnB 2 hts gC_X11_accountSlot rfl rfl rfl (hK.2.1 _ (List.mem_of_getElem? (i := 4) rfl)) (hts _ iC_X11) (by decide +kernel) ⟨Nat.le_of_ble_eq_true rfl, Nat.le_of_ble_eq_true rfl⟩, hts _ sC_X11_accountSlot, trivial⟩ hK hW rfl hl.1 rfl (Nat.le_of_ble_eq_true rfl) dX2_lowestTooLow_10 ⟨Nat.le_refl _, Nat.le_refl _⟩ (fun v_ f_ H locs hp hW => ?_)
    obtain ⟨hpv, hpe⟩ := hp
    rw [hpe] at hW
    subst hpv
    refine lv_istore (lv' := [(4, .int (iI (3 * k + c))), (3, .int (iI (k))), (2, .int (iI (c))), (1, .ref (ad 3)), (0, .ref (ad 7))]) hx hb dX2_lowestTooLow_13 hl (by decide) rfl (fun ls hl => ?_)
    refine lv_aload_n hx hb dX2_lowestTooLow_15 rfl (lv_at hl 3 rfl) ?_
    refine lv_iload hx hb dX2_lowestTooLow_16 (lv_at hl 0 rfl) ?_
    refine lv_aload_n hx hb dX2_lowestTooLow_18 rfl (lv_at hl 4 rfl) ?_
    refine g_get (ref := RX2) (T := TX2) (N := 3) (ci := 3) hx hb hts wsC_X2 hown hK hW (100000 + 7) (kW_at rfl) rfl 1 (by decide) (hts _ lC_X2_20) (fun x h => h) (v := .ref (ad 33)) rfl dX2_lowestTooLow_19 ?_
    refine lv_iload hx hb dX2_lowestTooLow_22 (lv_at hl 0 rfl) ?_
    refine g_callV (i := 100000 + 33) (As := [.int (iI (3 * k + c))]) (rest := [.int (iI (3 * k + c)), .ref (ad 3)]) K (c_X9_at (i := 100000 + 33) (j := 100000 + (40 + 13)) (3 * k + c) (kW_at rfl) (kW_at (kC_row (r := 13) (by decide))) (by decide) (by decide) (show 0 ≤ (3 * k + c) ∧ (3 * k + c) < ((21 : Nat) : Int) from ⟨by omega, by omega⟩)) (cwV 1 hts gC_X2_78 rfl rfl rfl (by decide +kernel) ⟨Nat.le_of_ble_eq_true rfl, Nat.le_of_ble_eq_true rfl⟩) hK hW (kW_at rfl) rfl rfl hl.1 rfl (Nat.le_of_ble_eq_true rfl) dX2_lowestTooLow_24 ⟨Nat.le_refl _, Nat.le_refl _⟩ (fun v_ f_ H locs hp hW => ?_)
    obtain ⟨hpv, hpe⟩ := hp
    rw [hpe] at hW
    have hpv : v_ = some (.long (cX (3 * k + c))) := hpv
    subst hpv
    refine g_callV (i := 100000 + 3) (As := [.int (iI (3 * k + c)), .long (cX (3 * k + c))]) (rest := []) K (c_X0_isTooLowBy (3 * k + c) (cX (3 * k + c)) hwf ⟨by omega, by omega⟩) (cwV 2 hts gC_X2_82 rfl rfl rfl (by decide +kernel) ⟨Nat.le_of_ble_eq_true rfl, Nat.le_of_ble_eq_true rfl⟩) hK hW (kW_at rfl) rfl rfl hl.1 rfl (Nat.le_of_ble_eq_true rfl) dX2_lowestTooLow_27 ⟨Nat.le_refl _, Nat.le_refl _⟩ (fun v_ f_ H locs hp hW => ?_)
    obtain ⟨hpv, hpe⟩ := hp
    rw [hpe] at hW
    have hpv : v_ = some (.int (iI (bI (kLow S (3 * k + c) (cX (3 * k + c)))))) := hpv
    subst hpv
    refine xi_ifb_eq (tgt := 35) hx hb dX2_lowestTooLow_30 (by decide) (fun c_3 => ?_) (fun c_3 => ?_)
    · refine xi_iinc (lv' := [(3, .int (iI (k + 1))), (4, .int (iI (3 * k + c))), (2, .int (iI (c))), (1, .ref (ad 3)), (0, .ref (ad 7))]) hx hb dX2_lowestTooLow_35 hl (k := 1) rfl (by decide) rfl (fun ls hl => ?_)
      refine lv_goto (tgt := 2) hx hb dX2_lowestTooLow_38 (by decide) ?_
      exact ih_lp_1 (k + 1) _ _ _ (by first | omega | (dsimp only; omega)) ⟨⟨⟨by omega, by omega⟩, fiF_s (by omega) hLo c_3⟩, hW, lv_sub hl [0, 2, 3, 4] rfl⟩
    · refine lv_iload_n hx hb dX2_lowestTooLow_33 rfl (lv_at hl 1 rfl) ?_
      exact g_iret hx hb hr hW ⟨by rw [kLo, fiF_at (by omega) (by omega) hLo c_3], rfl⟩ dX2_lowestTooLow_34 hlk
set_option maxHeartbeats 4000000 in
set_option maxRecDepth 100000 in
theorem c_X2_passesLimit {l : Launch} {D : va_G} {cy : Nat → ClassId} {B0 : Nat} {ad bk : Nat → Nat} {S : ST} {I : Int → Bool} {cX qX : Int → Int64} {G : gF} (b : Int) (u : Int) (c : Int) (hwf : wf S) (hb0 : 0 ≤ b ∧ b ≤ 5)(hu : 0 ≤ u ∧ u ≤ 5)(hc : 0 ≤ c ∧ c ≤ 2) : gM l yX2_passesLimit vX2_passesLimit 2 46 D cy B0 [.ref (ad 7), .ref (ad 3), .int (iI (b)), .int (iI (u)), .int (iI (c))] (kW cy ad bk S (I, cX, qX) G) (fun r g_ => r = some (.int (iI (bI (kPa S qX b u c)))) ∧ g_ = kW cy ad bk S (I, cX, qX) G) 0 0 := by
  refine g_start (cc := cX2_passesLimit) (maxL := 6) (ret := (some .boolean)) (by decide) rfl (Nat.le_of_ble_eq_true rfl) ?_
  intro p_ e_ s_ m_ be_ me_ co_ ls H locs K hr hlk hnm hK hW hl
  obtain ⟨hx, hb, hml, hown, hts⟩ := id K
  have hl : lv_has ls 6 [(0, .ref (ad 7)), (1, .ref (ad 3)), (2, .int (iI (b))), (3, .int (iI (u))), (4, .int (iI (c)))] := hl
  refine lv_iload_n hx hb dX2_passesLimit_0 rfl (lv_at hl 2 rfl) ?_
  refine lv_iload_n hx hb dX2_passesLimit_1 rfl (lv_at hl 3 rfl) ?_
  refine lv_iload hx hb dX2_passesLimit_2 (lv_at hl 4 rfl) ?_
  refine g_callSN (As := [.int (iI (b)), .int (iI (u)), .int (iI (c))]) (rest := []) K (c_X11_pairSlot (b) (u) (c)) ⟨va_cnB 3 hts gC_X11_pairSlot rfl rfl rfl (hK.2.1 _ (List.mem_of_getElem? (i := 5) rfl)) (hts _ iC_X11) (by decide +kernel) ⟨Nat.le_of_ble_eq_true rfl, Nat.le_of_ble_eq_true rfl⟩, hts _ sC_X11_pairSlot, trivial⟩ hK hW rfl hl.1 rfl (Nat.le_of_ble_eq_true rfl) dX2_passesLimit_4 ⟨Nat.le_refl _, Nat.le_refl _⟩ (fun v_ f_ H locs hp hW => ?_)
  obtain ⟨hpv, hpe⟩ := hp
  rw [hpe] at hW
  subst hpv
  refine lv_istore (lv' := [(5, .int (iI (3 * (6 * b + u) + c))), (0, .ref (ad 7)), (1, .ref (ad 3)), (2, .int (iI (b))), (3, .int (iI (u))), (4, .int (iI (c)))]) hx hb dX2_passesLimit_7 hl (by decide) rfl (fun ls hl => ?_)
  refine lv_aload_n hx hb dX2_passesLimit_9 rfl (lv_at hl 2 rfl) ?_
  refine lv_iload hx hb dX2_passesLimit_10 (lv_at hl 0 rfl) ?_
  refine lv_aload_n hx hb dX2_passesLimit_12 rfl (lv_at hl 1 rfl) ?_
  refine g_get (ref := RX2) (T := TX2) (N := 3) (ci := 3) hx hb hts wsC_X2 hown hK hW (100000 + 7) (kW_at rfl) rfl 2 (by decide) (hts _ lC_X2_23) (fun x h => h) (v := .ref (ad 34)) rfl dX2_passesLimit_13 ?_
  refine lv_iload hx hb dX2_passesLimit_16 (lv_at hl 0 rfl) ?_
  refine g_callV (i := 100000 + 34) (As := [.int (iI (3 * (6 * b + u) + c))]) (rest := [.int (iI (3 * (6 * b + u) + c)), .ref (ad 3)]) K (c_X9_at (i := 100000 + 34) (j := 100000 + (40 + 14)) (3 * (6 * b + u) + c) (kW_at rfl) (kW_at (kC_row (r := 14) (by decide))) (by decide) (by decide) (show 0 ≤ (3 * (6 * b + u) + c) ∧ (3 * (6 * b + u) + c) < ((108 : Nat) : Int) from ⟨by omega, by omega⟩)) (cwV 1 hts gC_X2_78 rfl rfl rfl (by decide +kernel) ⟨Nat.le_of_ble_eq_true rfl, Nat.le_of_ble_eq_true rfl⟩) hK hW (kW_at rfl) rfl rfl hl.1 rfl (Nat.le_of_ble_eq_true rfl) dX2_passesLimit_18 ⟨Nat.le_refl _, Nat.le_refl _⟩ (fun v_ f_ H locs hp hW => ?_)
  obtain ⟨hpv, hpe⟩ := hp
  rw [hpe] at hW
  have hpv : v_ = some (.long (qX (3 * (6 * b + u) + c))) := hpv
  subst hpv
  refine g_callV (i := 100000 + 3) (As := [.int (iI (3 * (6 * b + u) + c)), .long (qX (3 * (6 * b + u) + c))]) (rest := []) K (c_X0_isPassedBy (3 * (6 * b + u) + c) (qX (3 * (6 * b + u) + c)) hwf ⟨by omega, by omega⟩) (cwV 2 hts gC_X2_88 rfl rfl rfl (by decide +kernel) ⟨Nat.le_of_ble_eq_true rfl, Nat.le_of_ble_eq_true rfl⟩) hK hW (kW_at rfl) rfl rfl hl.1 rfl (Nat.le_of_ble_eq_true rfl) dX2_passesLimit_21 ⟨Nat.le_refl _, Nat.le_refl _⟩ (fun v_ f_ H locs hp hW => ?_)
  obtain ⟨hpv, hpe⟩ := hp
  rw [hpe] at hW
  have hpv : v_ = some (.int (iI (bI (kPas S (3 * (6 * b + u) + c) (qX (3 * (6 * b + u) + c)))))) := hpv
  subst hpv
  exact g_zret hx hb hr (bI_01 _) hW ⟨rfl, rfl⟩ dX2_passesLimit_24 hlk
theorem fiF_r (p : Int → Bool) : ∀ n : Nat, -1 ≤ fiF p n ∧ fiF p n < n
  | 0 => by unfold fiF; omega
  | n + 1 => by
    have ih := fiF_r p n
    unfold fiF
    split
    · split <;> omega
    · omega
theorem kLo_r (S : ST) (c : Int) (a : Int → Int64) : -1 ≤ kLo S c a ∧ kLo S c a ≤ 5 := by
  have := fiF_r (fun b => kLow S (3 * b + c) (a (3 * b + c))) 6
  unfold kLo
  omega
set_option maxHeartbeats 4000000 in
set_option maxRecDepth 100000 in
theorem c_X2_isWithinBounds {l : Launch} {D : va_G} {cy : Nat → ClassId} {B0 : Nat} {ad bk : Nat → Nat} {S : ST} {I : Int → Bool} {cX qX : Int → Int64} {G : gF} (c : Int) (hwf : wf S) (hc : 0 ≤ c ∧ c ≤ 2) : gM l yX2_isWithinBounds vX2_isWithinBounds 3 71 D cy B0 [.ref (ad 7), .ref (ad 3), .int (iI (c))] (kW cy ad bk S (I, cX, qX) G) (fun r g_ => r = some (.int (iI (bI (kFit S cX qX c)))) ∧ g_ = kW cy ad bk S (I, cX, qX) G) 0 0 := by
  refine g_start (cc := cX2_isWithinBounds) (maxL := 5) (ret := (some .boolean)) (by decide) rfl (Nat.le_of_ble_eq_true rfl) ?_
  intro p_ e_ s_ m_ be_ me_ co_ ls H locs K hr hlk hnm hK hW hl
  obtain ⟨hx, hb, hml, hown, hts⟩ := id K
  have hl : lv_has ls 5 [(0, .ref (ad 7)), (1, .ref (ad 3)), (2, .int (iI (c)))] := hl
  have hlr := kLo_r S c cX
  refine lv_aload_n hx hb dX2_isWithinBounds_0 rfl (lv_at hl 0 rfl) ?_
  refine lv_aload_n hx hb dX2_isWithinBounds_1 rfl (lv_at hl 1 rfl) ?_
  refine lv_iload_n hx hb dX2_isWithinBounds_2 rfl (lv_at hl 2 rfl) ?_
  refine g_callV (i := 100000 + 7) (As := [.ref (ad 3), .int (iI (c))]) (rest := []) K (c_X2_lowestTooLow (c) hwf ⟨by omega, by omega⟩) (cwV 2 hts gC_X2_91 rfl rfl rfl (by decide +kernel) ⟨Nat.le_of_ble_eq_true rfl, Nat.le_of_ble_eq_true rfl⟩) hK hW (kW_at rfl) rfl rfl hl.1 rfl (Nat.le_of_ble_eq_true rfl) dX2_isWithinBounds_3 ⟨Nat.le_refl _, Nat.le_refl _⟩ (fun v_ f_ H locs hp hW => ?_)
  obtain ⟨hpv, hpe⟩ := hp
  rw [hpe] at hW
  have hpv : v_ = some (.int (iI (kLo S (c) cX))) := hpv
  subst hpv
  refine xi_iconst hx hb dX2_isWithinBounds_6 ?_
  refine xi_icmp_eq (tgt := 12) hx hb ⟨by omega, by omega⟩ ⟨by omega, by omega⟩ dX2_isWithinBounds_7 (by decide) (fun c_1 => ?_) (fun c_1 => ?_)
  · refine xi_iconst hx hb dX2_isWithinBounds_12 ?_
    refine lv_istore_n (lv' := [(3, .int (iI (0))), (0, .ref (ad 7)), (1, .ref (ad 3)), (2, .int (iI (c)))]) hx hb dX2_isWithinBounds_13 rfl hl (by decide) rfl (fun ls hl => ?_)
    refine lp_w1 (Wg := fun (H : Heap) (locs : List Loc) (ls : Array Slot) => W p_ l e_ { frames := 3, cells := 0, slots := 0, locals := 71 } s_ m_ ([.ref (ad 7), .ref (ad 3), .int (iI (c))] : List Value).toArray be_ me_ co_ H locs 0 0 (MQ be_ (gQ D B0 (fun (r : Option Value) (g_ : gF) => r = some (.int (iI (bI (kFit S cX qX c)))) ∧ g_ = kW cy ad bk S (I, cX, qX) G)) ([.ref (ad 7), .ref (ad 3), .int (iI (c))] : List Value).toArray s_ 0 0 (fun q : Nat => B0 ≤ q)) (F0 m_ 14 ls [])) (fun (b : Int) (H : Heap) (locs : List Loc) (ls : Array Slot) => ((0 ≤ b ∧ b ≤ 6) ∧ alB (fun b => alB (fun u => !kPa S qX b u c) 6) b.toNat = true) ∧ gW D B0 s_ (kW cy ad bk S (I, cX, qX) G) H locs ∧ lv_has ls 5 [(3, .int (iI (b))), (2, .int (iI (c))), (1, .ref (ad 3)), (0, .ref (ad 7))]) (fun (b : Int) => (6 - b).toNat) (fun b H locs ls hI ih_lp_2 => ?_) (0) _ _ _ ⟨⟨by decide, rfl⟩, hW, lv_sub hl [0, 3, 2, 1] rfl⟩
    obtain ⟨hI_lp_2, hW, hl⟩ := hI
    obtain ⟨hb2, hA1⟩ := hI_lp_2
    refine lv_iload_n hx hb dX2_isWithinBounds_14 rfl (lv_at hl 0 rfl) ?_
    refine xi_bipush hx hb dX2_isWithinBounds_15 (by decide) ?_
    refine xi_icmp_ge (tgt := 56) hx hb ⟨by omega, by omega⟩ ⟨by omega, by omega⟩ dX2_isWithinBounds_17 (by decide) (fun c_3 => ?_) (fun c_3 => ?_)
    · refine xi_iconst hx hb dX2_isWithinBounds_56 ?_
      exact g_zret hx hb hr (Or.inr rfl) hW ⟨congrArg (fun z => some (Value.int (iI z))) (bI_t (by have h6 := hA1; rw [show b.toNat = 6 by omega] at h6; rw [kFit, decide_eq_true c_1, h6]; rfl)), rfl⟩ dX2_isWithinBounds_57 hlk
    · refine xi_iconst hx hb dX2_isWithinBounds_20 ?_
      refine lv_istore (lv' := [(4, .int (iI (0))), (3, .int (iI (b))), (2, .int (iI (c))), (1, .ref (ad 3)), (0, .ref (ad 7))]) hx hb dX2_isWithinBounds_21 hl (by decide) rfl (fun ls hl => ?_)
      refine lp_w1 (Wg := fun (H : Heap) (locs : List Loc) (ls : Array Slot) => W p_ l e_ { frames := 3, cells := 0, slots := 0, locals := 71 } s_ m_ ([.ref (ad 7), .ref (ad 3), .int (iI (c))] : List Value).toArray be_ me_ co_ H locs 0 0 (MQ be_ (gQ D B0 (fun (r : Option Value) (g_ : gF) => r = some (.int (iI (bI (kFit S cX qX c)))) ∧ g_ = kW cy ad bk S (I, cX, qX) G)) ([.ref (ad 7), .ref (ad 3), .int (iI (c))] : List Value).toArray s_ 0 0 (fun q : Nat => B0 ≤ q)) (F0 m_ 23 ls [])) (fun (u : Int) (H : Heap) (locs : List Loc) (ls : Array Slot) => ((0 ≤ u ∧ u ≤ 6) ∧ alB (fun u => !kPa S qX b u c) u.toNat = true) ∧ gW D B0 s_ (kW cy ad bk S (I, cX, qX) G) H locs ∧ lv_has ls 5 [(4, .int (iI (u))), (3, .int (iI (b))), (2, .int (iI (c))), (1, .ref (ad 3)), (0, .ref (ad 7))]) (fun (u : Int) => (6 - u).toNat) (fun u H locs ls hI ih_lp_4 => ?_) (0) _ _ _ ⟨⟨by decide, rfl⟩, hW, lv_sub hl [0, 1, 2, 3, 4] rfl⟩
      obtain ⟨hI_lp_4, hW, hl⟩ := hI
      obtain ⟨hu2, hA2⟩ := hI_lp_4
      refine lv_iload hx hb dX2_isWithinBounds_23 (lv_at hl 0 rfl) ?_
      refine xi_bipush hx hb dX2_isWithinBounds_25 (by decide) ?_
      refine xi_icmp_ge (tgt := 50) hx hb ⟨by omega, by omega⟩ ⟨by omega, by omega⟩ dX2_isWithinBounds_27 (by decide) (fun c_5 => ?_) (fun c_5 => ?_)
      · refine xi_iinc (lv' := [(3, .int (iI (b + 1))), (4, .int (iI (u))), (2, .int (iI (c))), (1, .ref (ad 3)), (0, .ref (ad 7))]) hx hb dX2_isWithinBounds_50 hl (k := 1) rfl (by decide) rfl (fun ls hl => ?_)
        refine lv_goto (tgt := 14) hx hb dX2_isWithinBounds_53 (by decide) ?_
        exact ih_lp_2 (b + 1) _ _ _ (by first | omega | (dsimp only; omega)) ⟨⟨⟨by omega, by omega⟩, alB_k (by omega) hA1 (by rw [← hA2, show u.toNat = 6 by omega])⟩, hW, lv_sub hl [0, 2, 3, 4] rfl⟩
      · refine lv_aload_n hx hb dX2_isWithinBounds_30 rfl (lv_at hl 4 rfl) ?_
        refine lv_aload_n hx hb dX2_isWithinBounds_31 rfl (lv_at hl 3 rfl) ?_
        refine lv_iload_n hx hb dX2_isWithinBounds_32 rfl (lv_at hl 1 rfl) ?_
        refine lv_iload hx hb dX2_isWithinBounds_33 (lv_at hl 0 rfl) ?_
        refine lv_iload_n hx hb dX2_isWithinBounds_35 rfl (lv_at hl 2 rfl) ?_
        refine g_callV (i := 100000 + 7) (As := [.ref (ad 3), .int (iI (b)), .int (iI (u)), .int (iI (c))]) (rest := []) K (c_X2_passesLimit (b) (u) (c) hwf ⟨by omega, by omega⟩ ⟨by omega, by omega⟩ ⟨by omega, by omega⟩) (cwV 4 hts gC_X2_95 rfl rfl rfl (by decide +kernel) ⟨Nat.le_of_ble_eq_true rfl, Nat.le_of_ble_eq_true rfl⟩) hK hW (kW_at rfl) rfl rfl hl.1 rfl (Nat.le_of_ble_eq_true rfl) dX2_isWithinBounds_36 ⟨Nat.le_refl _, Nat.le_refl _⟩ (fun v_ f_ H locs hp hW => ?_)
        obtain ⟨hpv, hpe⟩ := hp
        rw [hpe] at hW
        have hpv : v_ = some (.int (iI (bI (kPa S qX (b) (u) (c))))) := hpv
        subst hpv
        refine xi_ifb_eq (tgt := 44) hx hb dX2_isWithinBounds_39 (by decide) (fun c_6 => ?_) (fun c_6 => ?_)
        · refine xi_iinc (lv' := [(4, .int (iI (u + 1))), (3, .int (iI (b))), (2, .int (iI (c))), (1, .ref (ad 3)), (0, .ref (ad 7))]) hx hb dX2_isWithinBounds_44 hl (k := 0) rfl (by decide) rfl (fun ls hl => ?_)
          refine lv_goto (tgt := 23) hx hb dX2_isWithinBounds_47 (by decide) ?_
          exact ih_lp_4 (u + 1) _ _ _ (by first | omega | (dsimp only; omega)) ⟨⟨⟨by omega, by omega⟩, alB_k (by omega) hA2 (by rw [c_6]; rfl)⟩, hW, lv_sub hl [0, 1, 2, 3, 4] rfl⟩
        · refine xi_iconst hx hb dX2_isWithinBounds_42 ?_
          exact g_zret hx hb hr (Or.inl rfl) hW ⟨congrArg (fun z => some (Value.int (iI z))) (bI_f (by rw [kFit, alB_no (k := b) (n := 6) (by omega) (by omega) (alB_no (k := u) (n := 6) (by omega) (by omega) (by rw [c_6]; rfl))]; exact Bool.and_false _)), rfl⟩ dX2_isWithinBounds_43 hlk
  · refine xi_iconst hx hb dX2_isWithinBounds_10 ?_
    exact g_zret hx hb hr (Or.inl rfl) hW ⟨congrArg (fun z => some (Value.int (iI z))) (bI_f (by rw [kFit, decide_eq_false c_1]; rfl)), rfl⟩ dX2_isWithinBounds_11 hlk
