set_option maxHeartbeats 4000000 in
set_option maxRecDepth 100000 in
theorem c_M_settlesFirst {l : Launch} {D : va_G} {cy : Nat → ClassId} {B0 : Nat} {ix : Nat → Nat} {S : ST} {I : Int → Bool} {aM qM : Int → Int64} {tM : Int} {G : gF} (b : Int) (c : Int) (hb0 : 0 ≤ b ∧ b ≤ 5) (hc : 0 ≤ c ∧ c ≤ 2) (ho : okS S) : gM l yX12_settlesFirst vX12_settlesFirst 3 70 D cy B0 [.ref (ix 100), .int (iI b), .int (iI c)] (mW cy ix S (mX I aM qM tM) G) (fun r g => r = some (.int (iI (sFirst S b c).1)) ∧ ∃ (J : Int → Bool) (a q : Int → Int64), g = mW cy ix (sFirst S b c).2 (mX J a q tM) G) 0 0 := by
  refine g_start (cc := cX12_settlesFirst) (maxL := 4) (ret := (some .int)) (by decide) rfl (Nat.le_of_ble_eq_true rfl) ?_
  intro p_ e_ s_ m_ be_ me_ co_ ls H locs K hr hlk hnm hK hW hl
  have hin : ∀ w ∈ wsX120, w ∈ vX12_settlesFirst := wsM_cls
  obtain ⟨hx, hb, hml, hown, hts⟩ := id K
  have hl : lv_has ls 4 [(0, .ref (ix 100)), (1, .int (iI (b))), (2, .int (iI (c)))] := hl
  have hwf : wf S := ho.1
  refine lv_aload_n hx hb dX12_settlesFirst_0 rfl (lv_at hl 0 rfl) ?_
  refine lv_iload_n hx hb dX12_settlesFirst_1 rfl (lv_at hl 1 rfl) ?_
  refine lv_iload_n hx hb dX12_settlesFirst_2 rfl (lv_at hl 2 rfl) ?_
  refine xi_iconst hx hb dX12_settlesFirst_3 ?_
  refine g_callV (i := 0) (As := [.int (iI (b)), .int (iI (c)), .int (iI (0))]) (rest := []) K (c_M_queued (b) (c) (0) ⟨by omega, by omega⟩ ⟨by omega, by omega⟩ ⟨by omega, by omega⟩ ho.1) (cwV 3 hts gM_X12_queued rfl rfl rfl (by decide +kernel) ⟨Nat.le_of_ble_eq_true rfl, Nat.le_of_ble_eq_true rfl⟩) hK hW (mW_0 _ _ _ _ _) rfl rfl hl.1 rfl (Nat.le_of_ble_eq_true rfl) dX12_settlesFirst_4 ⟨Nat.le_refl _, Nat.le_refl _⟩ (fun v_ f_ H locs hp hW => ?_)
  obtain ⟨hpv, hpe⟩ := hp
  rw [hpe] at hW
  obtain ⟨its, hits⟩ : ∃ z : Int, z = qAt S b c 0 := ⟨_, rfl⟩
  rw [← hits] at hpv
  subst hpv
  have hir := qAt_r ho.1 hits
  have h80 := wf_8 ho.1 0
  refine lv_istore_n (lv' := [(3, .int (iI (its))), (0, .ref (ix 100)), (1, .int (iI (b))), (2, .int (iI (c)))]) hx hb dX12_settlesFirst_7 rfl hl (by decide) rfl (fun ls hl => ?_)
  refine lv_iload_n hx hb dX12_settlesFirst_8 rfl (lv_at hl 0 rfl) ?_
  refine xi_iconst hx hb dX12_settlesFirst_9 ?_
  refine xi_icmp_eq (tgt := 38) hx hb ⟨by omega, by omega⟩ ⟨by omega, by omega⟩ dX12_settlesFirst_10 (by decide) (fun c_1 => ?_) (fun c_1 => ?_)
  · refine xi_iconst hx hb dX12_settlesFirst_38 ?_
    exact g_iret hx hb hr hW ⟨by rw [sFirst_no hits (Or.inl c_1)], _, _, _, by rw [sFirst_no hits (Or.inl c_1)]⟩ dX12_settlesFirst_39 hlk
  · refine lv_aload_n hx hb dX12_settlesFirst_13 rfl (lv_at hl 1 rfl) ?_
    refine mr_get K hK hW hin 21 (by decide) lM_leg (v := .ref (ix 121)) rfl dX12_settlesFirst_14 ?_
    refine lv_iload_n hx hb dX12_settlesFirst_17 rfl (lv_at hl 0 rfl) ?_
    refine mr_iald K hK hW 21 (by decide) rfl (n := 60) rfl rfl ⟨by omega, by omega⟩ (v := S.1 21 (its)) rfl dX12_settlesFirst_18 ?_
    have w_2 := wf_21 hwf (its)
    refine xi_iconst hx hb dX12_settlesFirst_19 ?_
    refine xi_icmp_eq (tgt := 40) hx hb ⟨by omega, by omega⟩ ⟨by omega, by omega⟩ dX12_settlesFirst_20 (by decide) (fun c_3 => ?_) (fun c_3 => ?_)
    · refine lv_aload_n hx hb dX12_settlesFirst_40 rfl (lv_at hl 1 rfl) ?_
      refine g_callV (i := 0) (As := []) (rest := []) K c_M_clears (cwV 0 hts gM_X12_clears rfl rfl rfl (by decide +kernel) ⟨Nat.le_of_ble_eq_true rfl, Nat.le_of_ble_eq_true rfl⟩) hK hW (mW_0 _ _ _ _ _) rfl rfl hl.1 rfl (Nat.le_of_ble_eq_true rfl) dX12_settlesFirst_41 ⟨Nat.le_refl _, Nat.le_refl _⟩ (fun v_ f_ H locs hp hW => ?_)
      obtain ⟨hpv, J, hJ, hpe⟩ := hp
      rw [hpe] at hW
      subst hpv
      refine lv_aload_n hx hb dX12_settlesFirst_44 rfl (lv_at hl 1 rfl) ?_
      refine mr_get K hK hW hin 33 (by decide) lM_isIn (v := .ref (ix 133)) rfl dX12_settlesFirst_45 ?_
      refine lv_iload_n hx hb dX12_settlesFirst_48 rfl (lv_at hl 0 rfl) ?_
      refine xi_iconst hx hb dX12_settlesFirst_49 ?_
      refine mr_zastI K hK hW rfl (v := true) ⟨by omega, by omega⟩ dX12_settlesFirst_50 (fun H locs hW => ?_)
      refine lv_aload_n hx hb dX12_settlesFirst_51 rfl (lv_at hl 1 rfl) ?_
      refine mr_get K hK hW hin 21 (by decide) lM_leg (v := .ref (ix 121)) rfl dX12_settlesFirst_52 ?_
      refine lv_iload_n hx hb dX12_settlesFirst_55 rfl (lv_at hl 0 rfl) ?_
      refine mr_iald K hK hW 21 (by decide) rfl (n := 60) rfl rfl ⟨by omega, by omega⟩ (v := S.1 21 (its)) rfl dX12_settlesFirst_56 ?_
      have w_4 := wf_21 hwf (its)
      refine xi_iconst hx hb dX12_settlesFirst_57 ?_
      refine xi_icmp_eq (tgt := 73) hx hb ⟨by omega, by omega⟩ ⟨by omega, by omega⟩ dX12_settlesFirst_58 (by decide) (fun c_5 => ?_) (fun c_5 => ?_)
      · have hJJ : ∀ j : Int, 0 ≤ j → j < 60 → (iup J (its) (true)) j = fstI S its j := by
          intro j h1 h2
          have e2 : ¬ j = S.1 21 its := by rw [c_3]; omega
          by_cases e1 : j = its <;> simp [iup, fstI, e1, e2, hJ j h1 h2]
        have hlg : S.1 21 its = -1 ∨ S.1 18 (S.1 21 its) = 2 := Or.inl c_3
        have hmm : ∀ j : Int, 0 ≤ j → j < S.1 8 0 → (iup J (its) (true)) j = true → S.1 18 j ≠ 4 := by
          intro j h1 h2 h3
          rw [hJJ j h1 (by omega)] at h3
          simp only [fstI, Bool.or_eq_true, decide_eq_true_eq] at h3
          rcases h3 with h3 | h3
          · rw [h3]; omega
          · rcases hlg with q1 | q1
            · omega
            · rw [h3, q1]; decide
        refine lv_aload_n hx hb dX12_settlesFirst_73 rfl (lv_at hl 1 rfl) ?_
        refine g_callV (i := 0) (As := []) (rest := []) K (c_M_sums  hwf) (cwV 0 hts gM_X12_sums rfl rfl rfl (by decide +kernel) ⟨Nat.le_of_ble_eq_true rfl, Nat.le_of_ble_eq_true rfl⟩) hK hW (mW_0 _ _ _ _ _) rfl rfl hl.1 rfl (Nat.le_of_ble_eq_true rfl) dX12_settlesFirst_74 ⟨Nat.le_refl _, Nat.le_refl _⟩ (fun v_ f_ H locs hp hW => ?_)
        obtain ⟨hpv, a, q, hA, hQ, hpe⟩ := hp
        rw [hpe] at hW
        subst hpv
        refine lv_aload_n hx hb dX12_settlesFirst_77 rfl (lv_at hl 1 rfl) ?_
        refine g_callV (i := 0) (As := []) (rest := []) K (c_M_areAtWork  hwf) (cwV 0 hts gM_X12_areAtWork rfl rfl rfl (by decide +kernel) ⟨Nat.le_of_ble_eq_true rfl, Nat.le_of_ble_eq_true rfl⟩) hK hW (mW_0 _ _ _ _ _) rfl rfl hl.1 rfl (Nat.le_of_ble_eq_true rfl) dX12_settlesFirst_78 ⟨Nat.le_refl _, Nat.le_refl _⟩ (fun v_ f_ H locs hp hW => ?_)
        obtain ⟨hpv, hpe⟩ := hp
        rw [hpe] at hW
        have hpv : v_ = some (.int (iI (bI (wrkS S (iup J (its) (true)) (S.1 8 0).toNat)))) := hpv
        subst hpv
        refine xi_ifb_eq (tgt := 115) hx hb dX12_settlesFirst_81 (by decide) (fun c_6 => ?_) (fun c_6 => ?_)
        · refine xi_iconst hx hb dX12_settlesFirst_115 ?_
          exact g_iret hx hb hr hW ⟨by rw [sFirst_bad hits ho.1 hJJ hA hQ (by simp only [c_6, decide_true, decide_false, Bool.true_and, Bool.and_true, Bool.false_and, Bool.and_false, Bool.true_or, Bool.or_true, Bool.false_or, Bool.or_false, Bool.not_true, Bool.not_false, eq_self])], _, _, _, by rw [sFirst_bad hits ho.1 hJJ hA hQ (by simp only [c_6, decide_true, decide_false, Bool.true_and, Bool.and_true, Bool.false_and, Bool.and_false, Bool.true_or, Bool.or_true, Bool.false_or, Bool.or_false, Bool.not_true, Bool.not_false, eq_self])]⟩ dX12_settlesFirst_116 hlk
        · refine lv_aload_n hx hb dX12_settlesFirst_84 rfl (lv_at hl 1 rfl) ?_
          refine xi_iconst hx hb dX12_settlesFirst_85 ?_
          refine g_callV (i := 0) (As := [.int (iI (0))]) (rest := []) K (c_M_fits (0) ⟨by omega, by omega⟩ hwf) (cwV 1 hts gM_X12_fits rfl rfl rfl (by decide +kernel) ⟨Nat.le_of_ble_eq_true rfl, Nat.le_of_ble_eq_true rfl⟩) hK hW (mW_0 _ _ _ _ _) rfl rfl hl.1 rfl (Nat.le_of_ble_eq_true rfl) dX12_settlesFirst_86 ⟨Nat.le_refl _, Nat.le_refl _⟩ (fun v_ f_ H locs hp hW => ?_)
          obtain ⟨hpv, hpe⟩ := hp
          rw [hpe] at hW
          have hpv : v_ = some (.int (iI (bI (fiX S a q (0))))) := hpv
          subst hpv
          refine xi_ifb_eq (tgt := 115) hx hb dX12_settlesFirst_89 (by decide) (fun c_7 => ?_) (fun c_7 => ?_)
          · refine xi_iconst hx hb dX12_settlesFirst_115 ?_
            exact g_iret hx hb hr hW ⟨by rw [sFirst_bad hits ho.1 hJJ hA hQ (by simp only [c_6, c_7, decide_true, decide_false, Bool.true_and, Bool.and_true, Bool.false_and, Bool.and_false, Bool.true_or, Bool.or_true, Bool.false_or, Bool.or_false, Bool.not_true, Bool.not_false, eq_self])], _, _, _, by rw [sFirst_bad hits ho.1 hJJ hA hQ (by simp only [c_6, c_7, decide_true, decide_false, Bool.true_and, Bool.and_true, Bool.false_and, Bool.and_false, Bool.true_or, Bool.or_true, Bool.false_or, Bool.or_false, Bool.not_true, Bool.not_false, eq_self])]⟩ dX12_settlesFirst_116 hlk
          · refine lv_aload_n hx hb dX12_settlesFirst_92 rfl (lv_at hl 1 rfl) ?_
            refine xi_iconst hx hb dX12_settlesFirst_93 ?_
            refine g_callV (i := 0) (As := [.int (iI (1))]) (rest := []) K (c_M_fits (1) ⟨by omega, by omega⟩ hwf) (cwV 1 hts gM_X12_fits rfl rfl rfl (by decide +kernel) ⟨Nat.le_of_ble_eq_true rfl, Nat.le_of_ble_eq_true rfl⟩) hK hW (mW_0 _ _ _ _ _) rfl rfl hl.1 rfl (Nat.le_of_ble_eq_true rfl) dX12_settlesFirst_94 ⟨Nat.le_refl _, Nat.le_refl _⟩ (fun v_ f_ H locs hp hW => ?_)
            obtain ⟨hpv, hpe⟩ := hp
            rw [hpe] at hW
            have hpv : v_ = some (.int (iI (bI (fiX S a q (1))))) := hpv
            subst hpv
            refine xi_ifb_eq (tgt := 115) hx hb dX12_settlesFirst_97 (by decide) (fun c_8 => ?_) (fun c_8 => ?_)
            · refine xi_iconst hx hb dX12_settlesFirst_115 ?_
              exact g_iret hx hb hr hW ⟨by rw [sFirst_bad hits ho.1 hJJ hA hQ (by simp only [c_6, c_7, c_8, decide_true, decide_false, Bool.true_and, Bool.and_true, Bool.false_and, Bool.and_false, Bool.true_or, Bool.or_true, Bool.false_or, Bool.or_false, Bool.not_true, Bool.not_false, eq_self])], _, _, _, by rw [sFirst_bad hits ho.1 hJJ hA hQ (by simp only [c_6, c_7, c_8, decide_true, decide_false, Bool.true_and, Bool.and_true, Bool.false_and, Bool.and_false, Bool.true_or, Bool.or_true, Bool.false_or, Bool.or_false, Bool.not_true, Bool.not_false, eq_self])]⟩ dX12_settlesFirst_116 hlk
            · refine lv_aload_n hx hb dX12_settlesFirst_100 rfl (lv_at hl 1 rfl) ?_
              refine xi_iconst hx hb dX12_settlesFirst_101 ?_
              refine g_callV (i := 0) (As := [.int (iI (2))]) (rest := []) K (c_M_fits (2) ⟨by omega, by omega⟩ hwf) (cwV 1 hts gM_X12_fits rfl rfl rfl (by decide +kernel) ⟨Nat.le_of_ble_eq_true rfl, Nat.le_of_ble_eq_true rfl⟩) hK hW (mW_0 _ _ _ _ _) rfl rfl hl.1 rfl (Nat.le_of_ble_eq_true rfl) dX12_settlesFirst_102 ⟨Nat.le_refl _, Nat.le_refl _⟩ (fun v_ f_ H locs hp hW => ?_)
              obtain ⟨hpv, hpe⟩ := hp
              rw [hpe] at hW
              have hpv : v_ = some (.int (iI (bI (fiX S a q (2))))) := hpv
              subst hpv
              refine xi_ifb_eq (tgt := 115) hx hb dX12_settlesFirst_105 (by decide) (fun c_9 => ?_) (fun c_9 => ?_)
              · refine xi_iconst hx hb dX12_settlesFirst_115 ?_
                exact g_iret hx hb hr hW ⟨by rw [sFirst_bad hits ho.1 hJJ hA hQ (by simp only [c_6, c_7, c_8, c_9, decide_true, decide_false, Bool.true_and, Bool.and_true, Bool.false_and, Bool.and_false, Bool.true_or, Bool.or_true, Bool.false_or, Bool.or_false, Bool.not_true, Bool.not_false, eq_self])], _, _, _, by rw [sFirst_bad hits ho.1 hJJ hA hQ (by simp only [c_6, c_7, c_8, c_9, decide_true, decide_false, Bool.true_and, Bool.and_true, Bool.false_and, Bool.and_false, Bool.true_or, Bool.or_true, Bool.false_or, Bool.or_false, Bool.not_true, Bool.not_false, eq_self])]⟩ dX12_settlesFirst_116 hlk
              · refine lv_aload_n hx hb dX12_settlesFirst_108 rfl (lv_at hl 1 rfl) ?_
                refine g_callV (i := 0) (As := []) (rest := []) K (c_M_settles  ho hmm) (cwV 0 hts gM_X12_settles rfl rfl rfl (by decide +kernel) ⟨Nat.le_of_ble_eq_true rfl, Nat.le_of_ble_eq_true rfl⟩) hK hW (mW_0 _ _ _ _ _) rfl rfl hl.1 rfl (Nat.le_of_ble_eq_true rfl) dX12_settlesFirst_109 ⟨Nat.le_refl _, Nat.le_refl _⟩ (fun v_ f_ H locs hp hW => ?_)
                obtain ⟨hpv, hpe⟩ := hp
                rw [hpe] at hW
                have hpv : v_ = some (.int (iI (cnB (iup J (its) (true)) (S.1 8 0).toNat))) := hpv
                subst hpv
                refine lv_goto (tgt := 116) hx hb dX12_settlesFirst_112 (by decide) ?_
                exact g_iret hx hb hr hW ⟨by rw [sFirst_go hits c_1 ho.1 hlg hJJ hA hQ c_6 c_7 c_8 c_9], _, _, _, by rw [sFirst_go hits c_1 ho.1 hlg hJJ hA hQ c_6 c_7 c_8 c_9]⟩ dX12_settlesFirst_116 hlk
      · exact absurd c_3 c_5
    · refine lv_aload_n hx hb dX12_settlesFirst_23 rfl (lv_at hl 1 rfl) ?_
      refine mr_get K hK hW hin 18 (by decide) lM_state (v := .ref (ix 118)) rfl dX12_settlesFirst_24 ?_
      refine lv_aload_n hx hb dX12_settlesFirst_27 rfl (lv_at hl 1 rfl) ?_
      refine mr_get K hK hW hin 21 (by decide) lM_leg (v := .ref (ix 121)) rfl dX12_settlesFirst_28 ?_
      refine lv_iload_n hx hb dX12_settlesFirst_31 rfl (lv_at hl 0 rfl) ?_
      refine mr_iald K hK hW 21 (by decide) rfl (n := 60) rfl rfl ⟨by omega, by omega⟩ (v := S.1 21 (its)) rfl dX12_settlesFirst_32 ?_
      have w_10 := wf_21 hwf (its)
      refine mr_iald K hK hW 18 (by decide) rfl (n := 60) rfl rfl ⟨by omega, by omega⟩ (v := S.1 18 (S.1 21 (its))) rfl dX12_settlesFirst_33 ?_
      have w_11 := wf_18 hwf (S.1 21 (its))
      refine xi_iconst hx hb dX12_settlesFirst_34 ?_
      refine xi_icmp_eq (tgt := 40) hx hb ⟨by omega, by omega⟩ ⟨by omega, by omega⟩ dX12_settlesFirst_35 (by decide) (fun c_12 => ?_) (fun c_12 => ?_)
      · refine lv_aload_n hx hb dX12_settlesFirst_40 rfl (lv_at hl 1 rfl) ?_
        refine g_callV (i := 0) (As := []) (rest := []) K c_M_clears (cwV 0 hts gM_X12_clears rfl rfl rfl (by decide +kernel) ⟨Nat.le_of_ble_eq_true rfl, Nat.le_of_ble_eq_true rfl⟩) hK hW (mW_0 _ _ _ _ _) rfl rfl hl.1 rfl (Nat.le_of_ble_eq_true rfl) dX12_settlesFirst_41 ⟨Nat.le_refl _, Nat.le_refl _⟩ (fun v_ f_ H locs hp hW => ?_)
        obtain ⟨hpv, J, hJ, hpe⟩ := hp
        rw [hpe] at hW
        subst hpv
        refine lv_aload_n hx hb dX12_settlesFirst_44 rfl (lv_at hl 1 rfl) ?_
        refine mr_get K hK hW hin 33 (by decide) lM_isIn (v := .ref (ix 133)) rfl dX12_settlesFirst_45 ?_
        refine lv_iload_n hx hb dX12_settlesFirst_48 rfl (lv_at hl 0 rfl) ?_
        refine xi_iconst hx hb dX12_settlesFirst_49 ?_
        refine mr_zastI K hK hW rfl (v := true) ⟨by omega, by omega⟩ dX12_settlesFirst_50 (fun H locs hW => ?_)
        refine lv_aload_n hx hb dX12_settlesFirst_51 rfl (lv_at hl 1 rfl) ?_
        refine mr_get K hK hW hin 21 (by decide) lM_leg (v := .ref (ix 121)) rfl dX12_settlesFirst_52 ?_
        refine lv_iload_n hx hb dX12_settlesFirst_55 rfl (lv_at hl 0 rfl) ?_
        refine mr_iald K hK hW 21 (by decide) rfl (n := 60) rfl rfl ⟨by omega, by omega⟩ (v := S.1 21 (its)) rfl dX12_settlesFirst_56 ?_
        have w_13 := wf_21 hwf (its)
        refine xi_iconst hx hb dX12_settlesFirst_57 ?_
        refine xi_icmp_eq (tgt := 73) hx hb ⟨by omega, by omega⟩ ⟨by omega, by omega⟩ dX12_settlesFirst_58 (by decide) (fun c_14 => ?_) (fun c_14 => ?_)
        · exact absurd c_14 c_3
        · refine lv_aload_n hx hb dX12_settlesFirst_61 rfl (lv_at hl 1 rfl) ?_
          refine mr_get K hK hW hin 33 (by decide) lM_isIn (v := .ref (ix 133)) rfl dX12_settlesFirst_62 ?_
          refine lv_aload_n hx hb dX12_settlesFirst_65 rfl (lv_at hl 1 rfl) ?_
          refine mr_get K hK hW hin 21 (by decide) lM_leg (v := .ref (ix 121)) rfl dX12_settlesFirst_66 ?_
          refine lv_iload_n hx hb dX12_settlesFirst_69 rfl (lv_at hl 0 rfl) ?_
          refine mr_iald K hK hW 21 (by decide) rfl (n := 60) rfl rfl ⟨by omega, by omega⟩ (v := S.1 21 (its)) rfl dX12_settlesFirst_70 ?_
          have w_15 := wf_21 hwf (its)
          refine xi_iconst hx hb dX12_settlesFirst_71 ?_
          refine mr_zastI K hK hW rfl (v := true) ⟨by omega, by omega⟩ dX12_settlesFirst_72 (fun H locs hW => ?_)
          have hJJ : ∀ j : Int, 0 ≤ j → j < 60 → (iup (iup J (its) (true)) (S.1 21 (its)) (true)) j = fstI S its j := by
            intro j h1 h2
            by_cases e1 : j = its <;> by_cases e2 : j = S.1 21 its <;> simp [iup, fstI, e1, e2, hJ j h1 h2]
          have hlg : S.1 21 its = -1 ∨ S.1 18 (S.1 21 its) = 2 := Or.inr c_12
          have hmm : ∀ j : Int, 0 ≤ j → j < S.1 8 0 → (iup (iup J (its) (true)) (S.1 21 (its)) (true)) j = true → S.1 18 j ≠ 4 := by
            intro j h1 h2 h3
            rw [hJJ j h1 (by omega)] at h3
            simp only [fstI, Bool.or_eq_true, decide_eq_true_eq] at h3
            rcases h3 with h3 | h3
            · rw [h3]; omega
            · rcases hlg with q1 | q1
              · omega
              · rw [h3, q1]; decide
          refine lv_aload_n hx hb dX12_settlesFirst_73 rfl (lv_at hl 1 rfl) ?_
          refine g_callV (i := 0) (As := []) (rest := []) K (c_M_sums  hwf) (cwV 0 hts gM_X12_sums rfl rfl rfl (by decide +kernel) ⟨Nat.le_of_ble_eq_true rfl, Nat.le_of_ble_eq_true rfl⟩) hK hW (mW_0 _ _ _ _ _) rfl rfl hl.1 rfl (Nat.le_of_ble_eq_true rfl) dX12_settlesFirst_74 ⟨Nat.le_refl _, Nat.le_refl _⟩ (fun v_ f_ H locs hp hW => ?_)
          obtain ⟨hpv, a, q, hA, hQ, hpe⟩ := hp
          rw [hpe] at hW
          subst hpv
          refine lv_aload_n hx hb dX12_settlesFirst_77 rfl (lv_at hl 1 rfl) ?_
          refine g_callV (i := 0) (As := []) (rest := []) K (c_M_areAtWork  hwf) (cwV 0 hts gM_X12_areAtWork rfl rfl rfl (by decide +kernel) ⟨Nat.le_of_ble_eq_true rfl, Nat.le_of_ble_eq_true rfl⟩) hK hW (mW_0 _ _ _ _ _) rfl rfl hl.1 rfl (Nat.le_of_ble_eq_true rfl) dX12_settlesFirst_78 ⟨Nat.le_refl _, Nat.le_refl _⟩ (fun v_ f_ H locs hp hW => ?_)
          obtain ⟨hpv, hpe⟩ := hp
          rw [hpe] at hW
          have hpv : v_ = some (.int (iI (bI (wrkS S (iup (iup J (its) (true)) (S.1 21 (its)) (true)) (S.1 8 0).toNat)))) := hpv
          subst hpv
          refine xi_ifb_eq (tgt := 115) hx hb dX12_settlesFirst_81 (by decide) (fun c_16 => ?_) (fun c_16 => ?_)
          · refine xi_iconst hx hb dX12_settlesFirst_115 ?_
            exact g_iret hx hb hr hW ⟨by rw [sFirst_bad hits ho.1 hJJ hA hQ (by simp only [c_16, decide_true, decide_false, Bool.true_and, Bool.and_true, Bool.false_and, Bool.and_false, Bool.true_or, Bool.or_true, Bool.false_or, Bool.or_false, Bool.not_true, Bool.not_false, eq_self])], _, _, _, by rw [sFirst_bad hits ho.1 hJJ hA hQ (by simp only [c_16, decide_true, decide_false, Bool.true_and, Bool.and_true, Bool.false_and, Bool.and_false, Bool.true_or, Bool.or_true, Bool.false_or, Bool.or_false, Bool.not_true, Bool.not_false, eq_self])]⟩ dX12_settlesFirst_116 hlk
          · refine lv_aload_n hx hb dX12_settlesFirst_84 rfl (lv_at hl 1 rfl) ?_
            refine xi_iconst hx hb dX12_settlesFirst_85 ?_
            refine g_callV (i := 0) (As := [.int (iI (0))]) (rest := []) K (c_M_fits (0) ⟨by omega, by omega⟩ hwf) (cwV 1 hts gM_X12_fits rfl rfl rfl (by decide +kernel) ⟨Nat.le_of_ble_eq_true rfl, Nat.le_of_ble_eq_true rfl⟩) hK hW (mW_0 _ _ _ _ _) rfl rfl hl.1 rfl (Nat.le_of_ble_eq_true rfl) dX12_settlesFirst_86 ⟨Nat.le_refl _, Nat.le_refl _⟩ (fun v_ f_ H locs hp hW => ?_)
            obtain ⟨hpv, hpe⟩ := hp
            rw [hpe] at hW
            have hpv : v_ = some (.int (iI (bI (fiX S a q (0))))) := hpv
            subst hpv
            refine xi_ifb_eq (tgt := 115) hx hb dX12_settlesFirst_89 (by decide) (fun c_17 => ?_) (fun c_17 => ?_)
            · refine xi_iconst hx hb dX12_settlesFirst_115 ?_
              exact g_iret hx hb hr hW ⟨by rw [sFirst_bad hits ho.1 hJJ hA hQ (by simp only [c_16, c_17, decide_true, decide_false, Bool.true_and, Bool.and_true, Bool.false_and, Bool.and_false, Bool.true_or, Bool.or_true, Bool.false_or, Bool.or_false, Bool.not_true, Bool.not_false, eq_self])], _, _, _, by rw [sFirst_bad hits ho.1 hJJ hA hQ (by simp only [c_16, c_17, decide_true, decide_false, Bool.true_and, Bool.and_true, Bool.false_and, Bool.and_false, Bool.true_or, Bool.or_true, Bool.false_or, Bool.or_false, Bool.not_true, Bool.not_false, eq_self])]⟩ dX12_settlesFirst_116 hlk
            · refine lv_aload_n hx hb dX12_settlesFirst_92 rfl (lv_at hl 1 rfl) ?_
              refine xi_iconst hx hb dX12_settlesFirst_93 ?_
              refine g_callV (i := 0) (As := [.int (iI (1))]) (rest := []) K (c_M_fits (1) ⟨by omega, by omega⟩ hwf) (cwV 1 hts gM_X12_fits rfl rfl rfl (by decide +kernel) ⟨Nat.le_of_ble_eq_true rfl, Nat.le_of_ble_eq_true rfl⟩) hK hW (mW_0 _ _ _ _ _) rfl rfl hl.1 rfl (Nat.le_of_ble_eq_true rfl) dX12_settlesFirst_94 ⟨Nat.le_refl _, Nat.le_refl _⟩ (fun v_ f_ H locs hp hW => ?_)
              obtain ⟨hpv, hpe⟩ := hp
              rw [hpe] at hW
              have hpv : v_ = some (.int (iI (bI (fiX S a q (1))))) := hpv
              subst hpv
              refine xi_ifb_eq (tgt := 115) hx hb dX12_settlesFirst_97 (by decide) (fun c_18 => ?_) (fun c_18 => ?_)
              · refine xi_iconst hx hb dX12_settlesFirst_115 ?_
                exact g_iret hx hb hr hW ⟨by rw [sFirst_bad hits ho.1 hJJ hA hQ (by simp only [c_16, c_17, c_18, decide_true, decide_false, Bool.true_and, Bool.and_true, Bool.false_and, Bool.and_false, Bool.true_or, Bool.or_true, Bool.false_or, Bool.or_false, Bool.not_true, Bool.not_false, eq_self])], _, _, _, by rw [sFirst_bad hits ho.1 hJJ hA hQ (by simp only [c_16, c_17, c_18, decide_true, decide_false, Bool.true_and, Bool.and_true, Bool.false_and, Bool.and_false, Bool.true_or, Bool.or_true, Bool.false_or, Bool.or_false, Bool.not_true, Bool.not_false, eq_self])]⟩ dX12_settlesFirst_116 hlk
              · refine lv_aload_n hx hb dX12_settlesFirst_100 rfl (lv_at hl 1 rfl) ?_
                refine xi_iconst hx hb dX12_settlesFirst_101 ?_
                refine g_callV (i := 0) (As := [.int (iI (2))]) (rest := []) K (c_M_fits (2) ⟨by omega, by omega⟩ hwf) (cwV 1 hts gM_X12_fits rfl rfl rfl (by decide +kernel) ⟨Nat.le_of_ble_eq_true rfl, Nat.le_of_ble_eq_true rfl⟩) hK hW (mW_0 _ _ _ _ _) rfl rfl hl.1 rfl (Nat.le_of_ble_eq_true rfl) dX12_settlesFirst_102 ⟨Nat.le_refl _, Nat.le_refl _⟩ (fun v_ f_ H locs hp hW => ?_)
                obtain ⟨hpv, hpe⟩ := hp
                rw [hpe] at hW
                have hpv : v_ = some (.int (iI (bI (fiX S a q (2))))) := hpv
                subst hpv
                refine xi_ifb_eq (tgt := 115) hx hb dX12_settlesFirst_105 (by decide) (fun c_19 => ?_) (fun c_19 => ?_)
                · refine xi_iconst hx hb dX12_settlesFirst_115 ?_
                  exact g_iret hx hb hr hW ⟨by rw [sFirst_bad hits ho.1 hJJ hA hQ (by simp only [c_16, c_17, c_18, c_19, decide_true, decide_false, Bool.true_and, Bool.and_true, Bool.false_and, Bool.and_false, Bool.true_or, Bool.or_true, Bool.false_or, Bool.or_false, Bool.not_true, Bool.not_false, eq_self])], _, _, _, by rw [sFirst_bad hits ho.1 hJJ hA hQ (by simp only [c_16, c_17, c_18, c_19, decide_true, decide_false, Bool.true_and, Bool.and_true, Bool.false_and, Bool.and_false, Bool.true_or, Bool.or_true, Bool.false_or, Bool.or_false, Bool.not_true, Bool.not_false, eq_self])]⟩ dX12_settlesFirst_116 hlk
                · refine lv_aload_n hx hb dX12_settlesFirst_108 rfl (lv_at hl 1 rfl) ?_
                  refine g_callV (i := 0) (As := []) (rest := []) K (c_M_settles  ho hmm) (cwV 0 hts gM_X12_settles rfl rfl rfl (by decide +kernel) ⟨Nat.le_of_ble_eq_true rfl, Nat.le_of_ble_eq_true rfl⟩) hK hW (mW_0 _ _ _ _ _) rfl rfl hl.1 rfl (Nat.le_of_ble_eq_true rfl) dX12_settlesFirst_109 ⟨Nat.le_refl _, Nat.le_refl _⟩ (fun v_ f_ H locs hp hW => ?_)
                  obtain ⟨hpv, hpe⟩ := hp
                  rw [hpe] at hW
                  have hpv : v_ = some (.int (iI (cnB (iup (iup J (its) (true)) (S.1 21 (its)) (true)) (S.1 8 0).toNat))) := hpv
                  subst hpv
                  refine lv_goto (tgt := 116) hx hb dX12_settlesFirst_112 (by decide) ?_
                  exact g_iret hx hb hr hW ⟨by rw [sFirst_go hits c_1 ho.1 hlg hJJ hA hQ c_16 c_17 c_18 c_19], _, _, _, by rw [sFirst_go hits c_1 ho.1 hlg hJJ hA hQ c_16 c_17 c_18 c_19]⟩ dX12_settlesFirst_116 hlk
      · refine xi_iconst hx hb dX12_settlesFirst_38 ?_
        exact g_iret hx hb hr hW ⟨by rw [sFirst_no hits (Or.inr ⟨c_3, c_12⟩)], _, _, _, by rw [sFirst_no hits (Or.inr ⟨c_3, c_12⟩)]⟩ dX12_settlesFirst_39 hlk
theorem foS_s {σ : Type} (f : Int → σ → σ) (s : σ) (n : Nat) : foS f s (n + 1) = f n (foS f s n) := rfl
set_option maxHeartbeats 4000000 in
set_option maxRecDepth 100000 in
theorem c_M_runs {l : Launch} {D : va_G} {cy : Nat → ClassId} {B0 : Nat} {ix : Nat → Nat} {S : ST} {I : Int → Bool} {aM qM : Int → Int64} {tM : Int} {G : gF}  (ho : okS S) : gM l yX12_runs vX12_runs 4 93 D cy B0 [.ref (ix 100)] (mW cy ix S (mX I aM qM tM) G) (fun r g => r = some (.int (iI (sRuns S).1)) ∧ ∃ (J : Int → Bool) (a q : Int → Int64), g = mW cy ix (sRuns S).2 (mX J a q tM) G) 0 0 := by
  refine g_start (cc := cX12_runs) (maxL := 5) (ret := (some .int)) (by decide) rfl (Nat.le_of_ble_eq_true rfl) ?_
  intro p_ e_ s_ m_ be_ me_ co_ ls H locs K hr hlk hnm hK hW hl
  have hin : ∀ w ∈ wsX120, w ∈ vX12_runs := wsM_cls
  obtain ⟨hx, hb, hml, hown, hts⟩ := id K
  have hl : lv_has ls 5 [(0, .ref (ix 100))] := hl
  have hwf : wf S := ho.1
  refine xi_iconst hx hb dX12_runs_0 ?_
  refine lv_istore_n (lv' := [(1, .int (iI (0))), (0, .ref (ix 100))]) hx hb dX12_runs_1 rfl hl (by decide) rfl (fun ls hl => ?_)
  refine xi_iconst hx hb dX12_runs_2 ?_
  refine lv_istore_n (lv' := [(2, .int (iI (1))), (1, .int (iI (0))), (0, .ref (ix 100))]) hx hb dX12_runs_3 rfl hl (by decide) rfl (fun ls hl => ?_)
  refine lp_w4 (Wg := fun (H : Heap) (locs : List Loc) (ls : Array Slot) => W p_ l e_ { frames := 4, cells := 0, slots := 0, locals := 93 } s_ m_ ([.ref (ix 100)] : List Value).toArray be_ me_ co_ H locs 0 0 (MQ be_ (gQ D B0 (fun (r : Option Value) (g : gF) => r = some (.int (iI (sRuns S).1)) ∧ ∃ (J : Int → Bool) (a q : Int → Int64), g = mW cy ix (sRuns S).2 (mX J a q tM) G)) ([.ref (ix 100)] : List Value).toArray s_ 0 0 (fun q : Nat => B0 ≤ q)) (F0 m_ 4 ls [])) (fun (sum : Int) (now : Int) (T : ST) (XX : (Int → Bool) × (Int → Int64) × (Int → Int64)) (H : Heap) (locs : List Loc) (ls : Array Slot) => ((0 ≤ now ∧ now ≤ 60) ∧ okS T ∧ (0 < now → ∃ n : Nat, cNF T < n ∧ sRunN n sum T = sRuns S) ∧ (now ≤ 0 → (sum, T) = sRuns S)) ∧ gW D B0 s_ (mW cy ix T (mX (XX.1) (XX.2.1) (XX.2.2) (tM)) G) H locs ∧ lv_has ls 5 [(1, .int (iI (sum))), (2, .int (iI (now))), (0, .ref (ix 100))]) (fun (sum : Int) (now : Int) (T : ST) (XX : (Int → Bool) × (Int → Int64) × (Int → Int64)) => (if 0 < now then cNF T + 1 else 0).toNat) (fun sum now T XX H locs ls hI ih_lp_1 => ?_) (0) (1) (S) ((I, aM, qM)) _ _ _ ⟨⟨⟨by decide, by decide⟩, ho, fun _ => ⟨61, by have := ho.2.1; have := wf_27 ho.1 0; omega, rfl⟩, fun h => by omega⟩, hW, lv_sub hl [1, 0, 2] rfl⟩
  obtain ⟨hI_lp_1, hW, hl⟩ := hI
  obtain ⟨hnow, hoT, hgo, hend⟩ := hI_lp_1
  have hfT : cNF T ≤ 60 := by have h1 := hoT.2.1; have h2 := wf_27 hoT.1 0; omega
  refine lv_iload_n hx hb dX12_runs_4 rfl (lv_at hl 1 rfl) ?_
  refine xi_if_le (tgt := 56) hx hb ⟨by omega, by omega⟩ dX12_runs_5 (by decide) (fun c_2 => ?_) (fun c_2 => ?_)
  · refine lv_iload_n hx hb dX12_runs_56 rfl (lv_at hl 0 rfl) ?_
    exact g_iret hx hb hr hW ⟨by rw [← hend c_2], _, _, _, by rw [← hend c_2]⟩ dX12_runs_57 hlk
  · refine xi_iconst hx hb dX12_runs_8 ?_
    refine lv_istore_n (lv' := [(2, .int (iI (0))), (1, .int (iI (sum))), (0, .ref (ix 100))]) hx hb dX12_runs_9 rfl hl (by decide) rfl (fun ls hl => ?_)
    refine xi_iconst hx hb dX12_runs_10 ?_
    refine lv_istore_n (lv' := [(3, .int (iI (0))), (2, .int (iI (0))), (1, .int (iI (sum))), (0, .ref (ix 100))]) hx hb dX12_runs_11 rfl hl (by decide) rfl (fun ls hl => ?_)
    refine lp_w3 (Wg := fun (H : Heap) (locs : List Loc) (ls : Array Slot) => W p_ l e_ { frames := 4, cells := 0, slots := 0, locals := 93 } s_ m_ ([.ref (ix 100)] : List Value).toArray be_ me_ co_ H locs 0 0 (MQ be_ (gQ D B0 (fun (r : Option Value) (g : gF) => r = some (.int (iI (sRuns S).1)) ∧ ∃ (J : Int → Bool) (a q : Int → Int64), g = mW cy ix (sRuns S).2 (mX J a q tM) G)) ([.ref (ix 100)] : List Value).toArray s_ 0 0 (fun q : Nat => B0 ≤ q)) (F0 m_ 12 ls [])) (fun (c1 : Int) (y1 : Int × ST) (X1 : (Int → Bool) × (Int → Int64) × (Int → Int64)) (H : Heap) (locs : List Loc) (ls : Array Slot) => ((0 ≤ c1 ∧ c1 ≤ 3) ∧ y1 = foS rdC (0, T) c1.toNat) ∧ gW D B0 s_ (mW cy ix y1.2 (mX (X1.1) (X1.2.1) (X1.2.2) (tM)) G) H locs ∧ lv_has ls 5 [(3, .int (iI (c1))), (2, .int (iI (y1.1))), (1, .int (iI (sum))), (0, .ref (ix 100))]) (fun (c1 : Int) (y1 : Int × ST) (X1 : (Int → Bool) × (Int → Int64) × (Int → Int64)) => (3 - c1).toNat) (fun c1 y1 X1 H locs ls hI ih_lp_3 => ?_) (0) ((0, T)) (XX) _ _ _ ⟨⟨by decide, rfl⟩, hW, lv_sub hl [0, 1, 2, 3] rfl⟩
    obtain ⟨hI_lp_3, hW, hl⟩ := hI
    obtain ⟨hc1, hy1⟩ := hI_lp_3
    have hy1k : rdOk T y1 := by rw [hy1]; exact foS_keeps (P := rdOk T) (rdOk_0 hoT) (fun _ _ h => rdC_ok h) _
    refine lv_iload_n hx hb dX12_runs_12 rfl (lv_at hl 0 rfl) ?_
    refine xi_iconst hx hb dX12_runs_13 ?_
    refine xi_icmp_ge (tgt := 49) hx hb ⟨by omega, by omega⟩ ⟨by omega, by omega⟩ dX12_runs_14 (by decide) (fun c_4 => ?_) (fun c_4 => ?_)
    · refine lv_iload_n hx hb dX12_runs_49 rfl (lv_at hl 2 rfl) ?_
      refine lv_iload_n hx hb dX12_runs_50 rfl (lv_at hl 1 rfl) ?_
      refine xi_iadd hx hb dX12_runs_51 ?_
      refine lv_istore_n (lv' := [(1, .int (iI (sum + y1.1))), (3, .int (iI (c1))), (2, .int (iI (y1.1))), (0, .ref (ix 100))]) hx hb dX12_runs_52 rfl hl (by decide) rfl (fun ls hl => ?_)
      refine lv_goto (tgt := 4) hx hb dX12_runs_53 (by decide) ?_
      obtain ⟨n, hn, hrn⟩ := hgo c_2
      have hy1e : y1 = sRound T := by rw [hy1, show c1 = 3 by omega]; rfl
      obtain ⟨k1, k2, k3, k4⟩ := (hy1e ▸ sRound_ok hoT : rdOk T y1)
      have hcT := cNF_nn y1.2
      exact ih_lp_1 (sum + y1.1) (y1.1) (y1.2) (X1) _ _ _ (by rw [if_pos (show 0 < now by omega)]; split <;> omega) ⟨⟨⟨by omega, by omega⟩, k1, fun hpos => by
            cases n with
            | zero => have := cNF_nn T; omega
            | succ n =>
              refine ⟨n, by omega, ?_⟩
              rw [← hrn]
              conv => rhs; unfold sRunN
              rw [← hy1e, if_neg (by omega)], fun hz => by
            cases n with
            | zero => have := cNF_nn T; omega
            | succ n =>
              rw [← hrn]
              unfold sRunN
              rw [← hy1e, if_pos hz]⟩, hW, lv_sub hl [0, 2, 3] rfl⟩
    · refine xi_iconst hx hb dX12_runs_17 ?_
      refine lv_istore (lv' := [(4, .int (iI (0))), (3, .int (iI (c1))), (2, .int (iI (y1.1))), (1, .int (iI (sum))), (0, .ref (ix 100))]) hx hb dX12_runs_18 hl (by decide) rfl (fun ls hl => ?_)
      refine lp_w3 (Wg := fun (H : Heap) (locs : List Loc) (ls : Array Slot) => W p_ l e_ { frames := 4, cells := 0, slots := 0, locals := 93 } s_ m_ ([.ref (ix 100)] : List Value).toArray be_ me_ co_ H locs 0 0 (MQ be_ (gQ D B0 (fun (r : Option Value) (g : gF) => r = some (.int (iI (sRuns S).1)) ∧ ∃ (J : Int → Bool) (a q : Int → Int64), g = mW cy ix (sRuns S).2 (mX J a q tM) G)) ([.ref (ix 100)] : List Value).toArray s_ 0 0 (fun q : Nat => B0 ≤ q)) (F0 m_ 20 ls [])) (fun (b2 : Int) (y2 : Int × ST) (X2 : (Int → Bool) × (Int → Int64) × (Int → Int64)) (H : Heap) (locs : List Loc) (ls : Array Slot) => ((0 ≤ b2 ∧ b2 ≤ 6) ∧ y2 = foS (rdB c1) y1 b2.toNat) ∧ gW D B0 s_ (mW cy ix y2.2 (mX (X2.1) (X2.2.1) (X2.2.2) (tM)) G) H locs ∧ lv_has ls 5 [(4, .int (iI (b2))), (3, .int (iI (c1))), (2, .int (iI (y2.1))), (1, .int (iI (sum))), (0, .ref (ix 100))]) (fun (b2 : Int) (y2 : Int × ST) (X2 : (Int → Bool) × (Int → Int64) × (Int → Int64)) => (6 - b2).toNat) (fun b2 y2 X2 H locs ls hI ih_lp_5 => ?_) (0) (y1) (X1) _ _ _ ⟨⟨by decide, rfl⟩, hW, lv_sub hl [0, 1, 2, 3, 4] rfl⟩
      obtain ⟨hI_lp_5, hW, hl⟩ := hI
      obtain ⟨hb2, hy2e⟩ := hI_lp_5
      have hy2 : rdOk T y2 := by rw [hy2e]; exact foS_keeps (P := rdOk T) hy1k (fun _ _ h => rdB_ok h) _
      refine lv_iload hx hb dX12_runs_20 (lv_at hl 0 rfl) ?_
      refine xi_bipush hx hb dX12_runs_22 (by decide) ?_
      refine xi_icmp_ge (tgt := 43) hx hb ⟨by omega, by omega⟩ ⟨by omega, by omega⟩ dX12_runs_24 (by decide) (fun c_6 => ?_) (fun c_6 => ?_)
      · refine xi_iinc (lv' := [(3, .int (iI (c1 + 1))), (4, .int (iI (b2))), (2, .int (iI (y2.1))), (1, .int (iI (sum))), (0, .ref (ix 100))]) hx hb dX12_runs_43 hl (k := 1) rfl (by decide) rfl (fun ls hl => ?_)
        refine lv_goto (tgt := 12) hx hb dX12_runs_46 (by decide) ?_
        exact ih_lp_3 (c1 + 1) (y2) (X2) _ _ _ (by first | omega | (dsimp only; omega)) ⟨⟨⟨by omega, by omega⟩, by rw [show (c1 + 1).toNat = c1.toNat + 1 by omega, foS_s, show ((c1.toNat : Nat) : Int) = c1 by omega, ← hy1, hy2e, show b2 = 6 by omega]; rfl⟩, hW, lv_sub hl [0, 2, 3, 4] rfl⟩
      · refine lv_iload_n hx hb dX12_runs_27 rfl (lv_at hl 2 rfl) ?_
        refine lv_aload_n hx hb dX12_runs_28 rfl (lv_at hl 4 rfl) ?_
        refine lv_iload hx hb dX12_runs_29 (lv_at hl 0 rfl) ?_
        refine lv_iload_n hx hb dX12_runs_31 rfl (lv_at hl 1 rfl) ?_
        refine g_callV (i := 0) (As := [.int (iI (b2)), .int (iI (c1))]) (rest := [.int (iI (y2.1))]) K (c_M_settlesFirst (b2) (c1) ⟨by omega, by omega⟩ ⟨by omega, by omega⟩ hy2.1) (cwV 2 hts gM_X12_settlesFirst rfl rfl rfl (by decide +kernel) ⟨Nat.le_of_ble_eq_true rfl, Nat.le_of_ble_eq_true rfl⟩) hK hW (mW_0 _ _ _ _ _) rfl rfl hl.1 rfl (Nat.le_of_ble_eq_true rfl) dX12_runs_32 ⟨Nat.le_refl _, Nat.le_refl _⟩ (fun v_ f_ H locs hp hW => ?_)
        obtain ⟨hpv, J, a, q, hpe⟩ := hp
        rw [hpe] at hW
        subst hpv
        refine xi_iadd hx hb dX12_runs_35 ?_
        refine lv_istore_n (lv' := [(2, .int (iI (y2.1 + ((sFirst (y2.2) (b2) (c1)).1)))), (4, .int (iI (b2))), (3, .int (iI (c1))), (1, .int (iI (sum))), (0, .ref (ix 100))]) hx hb dX12_runs_36 rfl hl (by decide) rfl (fun ls hl => ?_)
        refine xi_iinc (lv' := [(4, .int (iI (b2 + 1))), (2, .int (iI (y2.1 + ((sFirst (y2.2) (b2) (c1)).1)))), (3, .int (iI (c1))), (1, .int (iI (sum))), (0, .ref (ix 100))]) hx hb dX12_runs_37 hl (k := 1) rfl (by decide) rfl (fun ls hl => ?_)
        refine lv_goto (tgt := 20) hx hb dX12_runs_40 (by decide) ?_
        exact ih_lp_5 (b2 + 1) (rdB c1 b2 y2) ((J, a, q)) _ _ _ (by first | omega | (dsimp only; omega)) ⟨⟨⟨by omega, by omega⟩, by rw [show (b2 + 1).toNat = b2.toNat + 1 by omega, foS_s, show ((b2.toNat : Nat) : Int) = b2 by omega, ← hy2e]⟩, hW, lv_sub hl [0, 2, 1, 3, 4] rfl⟩
