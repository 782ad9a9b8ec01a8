theorem offI_4 {S : ST} {c j : Int} (h : offI S c j = true) : S.1 18 j ≠ 4 := by
  simp only [offI, Bool.and_eq_true, decide_eq_true_eq] at h
  rw [h.1.1.1.1.2]; decide
theorem sOff_ok {S : ST} (ho : okS S) (c : Int) : rdOk S (sOff S c) := by
  unfold sOff
  split
  · exact (sRedS_ok ho (fun j _ _ h => offI_4 h)).1
  · exact rdOk_0 ho
set_option maxHeartbeats 4000000 in
set_option maxRecDepth 100000 in
theorem c_M_offset {l : Launch} {D : va_G} {cy : Nat → ClassId} {B0 : Nat} {ix : Nat → Nat} {S : ST} {I : Int → Bool} {aM qM : Int → Int64} {tM : Int} {G : gF} (c : Int) (h_c : rI c) (ho : okS S)  : gM l yX12_offset vX12_offset 5 117 D cy B0 [.ref (ix 100), .int (iI c)] (mW cy ix S (mX I aM qM tM) G) (fun r g => r = some (.int (iI (pOff S c).2.1)) ∧ ∃ (J : Int → Bool) (a q : Int → Int64), g = mW cy ix (pOff S c).2.2 (mX J a q (pOff S c).1) G) 0 0 := by
  refine g_start (cc := cX12_offset) (maxL := 4) (ret := (some .int)) (by decide) rfl (Nat.le_of_ble_eq_true rfl) ?_
  intro p_ e_ s_ m_ be_ me_ co_ ls H locs K hr hlk hnm hK hW hl
  have hin : ∀ w ∈ wsX120, w ∈ vX12_offset := wsM_cls
  obtain ⟨hx, hb, hml, hown, hts⟩ := id K
  have hl : lv_has ls 4 [(0, .ref (ix 100)), (1, .int (iI (c)))] := hl
  have hwf : wf S := ho.1
  have h00 := wf_0 hwf 0
  refine lv_aload_n hx hb dX12_offset_0 rfl (lv_at hl 0 rfl) ?_
  refine lv_iload_n hx hb dX12_offset_1 rfl (lv_at hl 1 rfl) ?_
  refine g_callS (As := [.int (iI (c))]) (rest := [.ref (ix 100)]) K (c_M_isCurrency (c) ⟨by omega, by omega⟩) (va_cwS 1 hts gM_X12_isCurrency rfl rfl rfl (by decide +kernel) ⟨Nat.le_of_ble_eq_true rfl, Nat.le_of_ble_eq_true rfl⟩) hK hW rfl hl.1 rfl (Nat.le_of_ble_eq_true rfl) dX12_offset_2 ⟨Nat.le_refl _, Nat.le_refl _⟩ (fun v_ f_ H locs hp hW => ?_)
  obtain ⟨hpv, hpe⟩ := hp
  rw [hpe] at hW
  subst hpv
  refine xi_iconst hx hb dX12_offset_5 ?_
  refine xi_iconst hx hb dX12_offset_6 ?_
  refine g_callV (i := 0) (As := [.int (iI (bI (sIn (c) 0 2))), .int (iI (1)), .int (iI (1))]) (rest := []) K (c_M_goes (sIn (c) 0 2) (true) (true)) (cwV 3 hts gM_X12_goes rfl rfl rfl (by decide +kernel) ⟨Nat.le_of_ble_eq_true rfl, Nat.le_of_ble_eq_true rfl⟩) hK hW (mW_0 _ _ _ _ _) rfl rfl hl.1 rfl (Nat.le_of_ble_eq_true rfl) dX12_offset_7 ⟨Nat.le_refl _, Nat.le_refl _⟩ (fun v_ f_ H locs hp hW => ?_)
  obtain ⟨hpv, hpe⟩ := hp
  rw [hpe] at hW
  subst hpv
  refine xi_ifb_ne (tgt := 15) hx hb dX12_offset_10 (by decide) (fun c_1 => ?_) (fun c_1 => ?_)
  · have hg := c_1
    simp only [sIn, Bool.and_eq_true, Bool.or_eq_true, decide_eq_true_eq, Bool.not_eq_true', decide_eq_false_iff_not, and_true, true_and] at hg
    have h80 := wf_8 hwf 0
    refine xi_iconst hx hb dX12_offset_15 ?_
    refine lv_istore_n (lv' := [(2, .int (iI (0))), (0, .ref (ix 100)), (1, .int (iI (c)))]) hx hb dX12_offset_16 rfl hl (by decide) rfl (fun ls hl => ?_)
    refine lv_aload_n hx hb dX12_offset_17 rfl (lv_at hl 1 rfl) ?_
    refine lv_iload_n hx hb dX12_offset_18 rfl (lv_at hl 2 rfl) ?_
    refine lv_aload_n hx hb dX12_offset_19 rfl (lv_at hl 1 rfl) ?_
    refine mr_get K hK hW hin 0 (by decide) lM_today (v := .int (iI (S.1 0 (0)))) rfl dX12_offset_20 ?_
    have w_w_2 := wf_0 hwf 0
    refine g_callV (i := 0) (As := [.int (iI (c)), .int (iI (S.1 0 (0)))]) (rest := []) K (c_M_isOpen (c) (S.1 0 (0)) ⟨by omega, by omega⟩ ⟨by omega, by omega⟩ hwf) (cwV 2 hts gM_X12_isOpen rfl rfl rfl (by decide +kernel) ⟨Nat.le_of_ble_eq_true rfl, Nat.le_of_ble_eq_true rfl⟩) hK hW (mW_0 _ _ _ _ _) rfl rfl hl.1 rfl (Nat.le_of_ble_eq_true rfl) dX12_offset_23 ⟨Nat.le_refl _, Nat.le_refl _⟩ (fun v_ f_ H locs hp hW => ?_)
    obtain ⟨hpv, hpe⟩ := hp
    rw [hpe] at hW
    have hpv : v_ = some (.int (iI (bI (sOpen S (c) (S.1 0 (0)))))) := hpv
    subst hpv
    refine xi_ifb_eq (tgt := 127) hx hb dX12_offset_26 (by decide) (fun c_3 => ?_) (fun c_3 => ?_)
    · refine lv_aload_n hx hb dX12_offset_127 rfl (lv_at hl 1 rfl) ?_
      refine g_callV (i := 0) (As := []) (rest := []) K (c_M_runs ho) (cwV 0 hts gM_X12_runs rfl rfl rfl (by decide +kernel) ⟨Nat.le_of_ble_eq_true rfl, Nat.le_of_ble_eq_true rfl⟩) hK hW (mW_0 _ _ _ _ _) rfl rfl hl.1 rfl (Nat.le_of_ble_eq_true rfl) dX12_offset_128 ⟨Nat.le_refl _, Nat.le_refl _⟩ (fun v_ f_ H locs hp hW => ?_)
      obtain ⟨hpv, J, a, q, hpe⟩ := hp
      rw [hpe] at hW
      subst hpv
      refine lv_istore_n (lv' := [(3, .int (iI ((sRuns S).1))), (2, .int (iI (0))), (0, .ref (ix 100)), (1, .int (iI (c)))]) hx hb dX12_offset_131 rfl hl (by decide) rfl (fun ls hl => ?_)
      refine lv_iload_n hx hb dX12_offset_132 rfl (lv_at hl 1 rfl) ?_
      exact g_iret hx hb hr hW ⟨by rw [pOff, if_pos c_1, sOff, if_neg (by rw [c_3]; decide)], _, _, _, by rw [pOff, if_pos c_1, sOff, if_neg (by rw [c_3]; decide)]⟩ dX12_offset_133 hlk
    · refine xi_iconst hx hb dX12_offset_29 ?_
      refine lv_istore_n (lv' := [(3, .int (iI (0))), (2, .int (iI (0))), (0, .ref (ix 100)), (1, .int (iI (c)))]) hx hb dX12_offset_30 rfl hl (by decide) rfl (fun ls hl => ?_)
      refine lp_w2 (Wg := fun (H : Heap) (locs : List Loc) (ls : Array Slot) => W p_ l e_ { frames := 5, cells := 0, slots := 0, locals := 117 } s_ m_ ([.ref (ix 100), .int (iI c)] : List Value).toArray be_ me_ co_ H locs 0 0 (MQ be_ (gQ D B0 (fun (r : Option Value) (g : gF) => r = some (.int (iI (pOff S c).2.1)) ∧ ∃ (J : Int → Bool) (a q : Int → Int64), g = mW cy ix (pOff S c).2.2 (mX J a q (pOff S c).1) G)) ([.ref (ix 100), .int (iI c)] : List Value).toArray s_ 0 0 (fun q : Nat => B0 ≤ q)) (F0 m_ 31 ls [])) (fun (k : Int) (J : Int → Bool) (H : Heap) (locs : List Loc) (ls : Array Slot) => ((0 ≤ k ∧ k ≤ 60) ∧ ∀ j : Int, 0 ≤ j → j < k → J j = offI S c j) ∧ gW D B0 s_ (mW cy ix S (mX (J) (aM) (qM) (sGo (sIn (c) 0 2) true true)) G) H locs ∧ lv_has ls 4 [(3, .int (iI (k))), (2, .int (iI (0))), (1, .int (iI (c))), (0, .ref (ix 100))]) (fun (k : Int) (J : Int → Bool) => (60 - k).toNat) (fun k J H locs ls hI ih_lp_4 => ?_) (0) (I) _ _ _ ⟨⟨by decide, fun j h1 h2 => by omega⟩, hW, lv_sub hl [0, 1, 3, 2] rfl⟩
      obtain ⟨hI_lp_4, hW, hl⟩ := hI
      obtain ⟨hk, hJ⟩ := hI_lp_4
      have h80 := wf_8 ho.1 0
      refine lv_iload_n hx hb dX12_offset_31 rfl (lv_at hl 0 rfl) ?_
      refine xi_bipush hx hb dX12_offset_32 (by decide) ?_
      refine xi_icmp_ge (tgt := 120) hx hb ⟨by omega, by omega⟩ ⟨by omega, by omega⟩ dX12_offset_34 (by decide) (fun c_5 => ?_) (fun c_5 => ?_)
      · have hJ60 : ∀ j : Int, 0 ≤ j → j < nP S → J j = offI S c j := fun j h1 h2 => hJ j h1 (by have := nP_le ho.1; omega)
        have hm : ∀ j : Int, 0 ≤ j → j < S.1 8 0 → J j = true → S.1 18 j ≠ 4 := fun j h1 h2 h3 => by
          rw [hJ j h1 (by omega)] at h3
          simp only [offI, Bool.and_eq_true, decide_eq_true_eq] at h3
          rw [h3.1.1.1.1.2]; decide
        refine lv_aload_n hx hb dX12_offset_120 rfl (lv_at hl 3 rfl) ?_
        refine lv_iload_n hx hb dX12_offset_121 rfl (lv_at hl 2 rfl) ?_
        refine xi_iconst hx hb dX12_offset_122 ?_
        refine g_callV (i := 0) (As := [.int (iI (c)), .int (iI (1))]) (rest := []) K (c_M_reduces (c) true ⟨by omega, by omega⟩ ho hm) (cwV 2 hts gM_X12_reduces rfl rfl rfl (by decide +kernel) ⟨Nat.le_of_ble_eq_true rfl, Nat.le_of_ble_eq_true rfl⟩) hK hW (mW_0 _ _ _ _ _) rfl rfl hl.1 rfl (Nat.le_of_ble_eq_true rfl) dX12_offset_123 ⟨Nat.le_refl _, Nat.le_refl _⟩ (fun v_ f_ H locs hp hW => ?_)
        obtain ⟨hpv, J2, a2, q2, hpe⟩ := hp
        rw [sRedS_congr (J := offI S c) ⟨by omega, by omega⟩ hJ60] at hpv hpe
        rw [hpe] at hW
        subst hpv
        refine lv_istore_n (lv' := [(2, .int (iI ((sRedS S (offI S c) c true).1))), (3, .int (iI (k))), (1, .int (iI (c))), (0, .ref (ix 100))]) hx hb dX12_offset_126 rfl hl (by decide) rfl (fun ls hl => ?_)
        refine lv_aload_n hx hb dX12_offset_127 rfl (lv_at hl 3 rfl) ?_
        refine g_callV (i := 0) (As := []) (rest := []) K (c_M_runs (sRedS_ok (I := offI S c) (c := c) (q := true) ho (fun j _ _ h => offI_4 h)).1.1) (cwV 0 hts gM_X12_runs rfl rfl rfl (by decide +kernel) ⟨Nat.le_of_ble_eq_true rfl, Nat.le_of_ble_eq_true rfl⟩) hK hW (mW_0 _ _ _ _ _) rfl rfl hl.1 rfl (Nat.le_of_ble_eq_true rfl) dX12_offset_128 ⟨Nat.le_refl _, Nat.le_refl _⟩ (fun v_ f_ H locs hp hW => ?_)
        obtain ⟨hpv, J, a, q, hpe⟩ := hp
        rw [hpe] at hW
        subst hpv
        refine lv_istore_n (lv' := [(3, .int (iI ((sRuns ((sRedS S (offI S c) c true).2)).1))), (2, .int (iI ((sRedS S (offI S c) c true).1))), (1, .int (iI (c))), (0, .ref (ix 100))]) hx hb dX12_offset_131 rfl hl (by decide) rfl (fun ls hl => ?_)
        refine lv_iload_n hx hb dX12_offset_132 rfl (lv_at hl 1 rfl) ?_
        exact g_iret hx hb hr hW ⟨by rw [pOff, if_pos c_1, sOff, if_pos c_3], _, _, _, by rw [pOff, if_pos c_1, sOff, if_pos c_3]⟩ dX12_offset_133 hlk
      · refine lv_aload_n hx hb dX12_offset_37 rfl (lv_at hl 3 rfl) ?_
        refine mr_get K hK hW hin 33 (by decide) lM_isIn (v := .ref (ix 133)) rfl dX12_offset_38 ?_
        refine lv_iload_n hx hb dX12_offset_41 rfl (lv_at hl 0 rfl) ?_
        have j_6 : ∀ (zJ : Bool) (H : Heap) (locs : List Loc), zJ = (offI S c k) → gW D B0 s_ (mW cy ix S (mX (J) (aM) (qM) (sGo (sIn (c) 0 2) true true)) G) H locs → W p_ l e_ { frames := 5, cells := 0, slots := 0, locals := 117 } s_ m_ ([.ref (ix 100), .int (iI c)] : List Value).toArray be_ me_ co_ H locs 0 0 (MQ be_ (gQ D B0 (fun (r : Option Value) (g : gF) => r = some (.int (iI (pOff S c).2.1)) ∧ ∃ (J : Int → Bool) (a q : Int → Int64), g = mW cy ix (pOff S c).2.2 (mX J a q (pOff S c).1) G)) ([.ref (ix 100), .int (iI c)] : List Value).toArray s_ 0 0 (fun q : Nat => B0 ≤ q)) (F0 m_ 113 ls [.int (iI (bI (zJ))), .int (iI (k)), .ref (ix 133)]) := by
          intro zJ H locs hzJ hW
          subst hzJ
          refine mr_zastI K hK hW rfl (v := offI S c k) ⟨by omega, by omega⟩ dX12_offset_113 (fun H locs hW => ?_)
          refine xi_iinc (lv' := [(3, .int (iI (k + 1))), (2, .int (iI (0))), (1, .int (iI (c))), (0, .ref (ix 100))]) hx hb dX12_offset_114 hl (k := 0) rfl (by decide) rfl (fun ls hl => ?_)
          refine lv_goto (tgt := 31) hx hb dX12_offset_117 (by decide) ?_
          exact ih_lp_4 (k + 1) (iup J (k) (offI S c k)) _ _ _ (by first | omega | (dsimp only; omega)) ⟨⟨⟨by omega, by omega⟩, fun j h1 h2 => by
        by_cases h : j = k
        · rw [h]; exact iup_s _ _ _
        · rw [iup_n _ _ h]; exact hJ j h1 (by omega)⟩, hW, lv_sub hl [0, 1, 2, 3] rfl⟩
        refine lv_iload_n hx hb dX12_offset_42 rfl (lv_at hl 0 rfl) ?_
        refine lv_aload_n hx hb dX12_offset_43 rfl (lv_at hl 3 rfl) ?_
        refine mr_get K hK hW hin 8 (by decide) lM_payments (v := .int (iI (S.1 8 (0)))) rfl dX12_offset_44 ?_
        have w_w_7 := wf_8 hwf 0
        refine xi_icmp_ge (tgt := 112) hx hb ⟨by omega, by omega⟩ ⟨by omega, by omega⟩ dX12_offset_47 (by decide) (fun c_8 => ?_) (fun c_8 => ?_)
        · refine xi_iconst hx hb dX12_offset_112 ?_
          exact xi_eq (z' := bI (offI S c k)) (bI_f (by simp only [offI, c_1, c_3, c_5, Int.not_le.mpr c_5, c_8, Int.not_lt.mpr c_8, decide_true, decide_false, Bool.true_and, Bool.and_true, Bool.false_and, Bool.and_false, Bool.true_or, Bool.or_true, Bool.false_or, Bool.or_false, Bool.not_true, Bool.not_false, eq_self])) (j_6 _ _ _ rfl hW)
        · refine lv_aload_n hx hb dX12_offset_50 rfl (lv_at hl 3 rfl) ?_
          refine mr_get K hK hW hin 18 (by decide) lM_state (v := .ref (ix 118)) rfl dX12_offset_51 ?_
          refine lv_iload_n hx hb dX12_offset_54 rfl (lv_at hl 0 rfl) ?_
          refine mr_iald K hK hW 18 (by decide) rfl (n := 60) rfl rfl ⟨by omega, by omega⟩ (v := S.1 18 (k)) rfl dX12_offset_55 ?_
          have w_9 := wf_18 hwf (k)
          refine xi_iconst hx hb dX12_offset_56 ?_
          refine xi_icmp_ne (tgt := 112) hx hb ⟨by omega, by omega⟩ ⟨by omega, by omega⟩ dX12_offset_57 (by decide) (fun c_10 => ?_) (fun c_10 => ?_)
          · refine xi_iconst hx hb dX12_offset_112 ?_
            exact xi_eq (z' := bI (offI S c k)) (bI_f (by simp only [offI, c_1, c_3, c_5, Int.not_le.mpr c_5, c_8, Int.not_le.mpr c_8, c_10, decide_true, decide_false, Bool.true_and, Bool.and_true, Bool.false_and, Bool.and_false, Bool.true_or, Bool.or_true, Bool.false_or, Bool.or_false, Bool.not_true, Bool.not_false, eq_self])) (j_6 _ _ _ rfl hW)
          · refine lv_aload_n hx hb dX12_offset_60 rfl (lv_at hl 3 rfl) ?_
            refine mr_get K hK hW hin 11 (by decide) lM_currency (v := .ref (ix 111)) rfl dX12_offset_61 ?_
            refine lv_iload_n hx hb dX12_offset_64 rfl (lv_at hl 0 rfl) ?_
            refine mr_iald K hK hW 11 (by decide) rfl (n := 60) rfl rfl ⟨by omega, by omega⟩ (v := S.1 11 (k)) rfl dX12_offset_65 ?_
            have w_11 := wf_11 hwf (k)
            refine lv_iload_n hx hb dX12_offset_66 rfl (lv_at hl 2 rfl) ?_
            refine xi_icmp_ne (tgt := 112) hx hb ⟨by omega, by omega⟩ ⟨by omega, by omega⟩ dX12_offset_67 (by decide) (fun c_12 => ?_) (fun c_12 => ?_)
            · refine xi_iconst hx hb dX12_offset_112 ?_
              exact xi_eq (z' := bI (offI S c k)) (bI_f (by simp only [offI, c_1, c_3, c_5, Int.not_le.mpr c_5, c_8, Int.not_le.mpr c_8, c_10, c_12, decide_true, decide_false, Bool.true_and, Bool.and_true, Bool.false_and, Bool.and_false, Bool.true_or, Bool.or_true, Bool.false_or, Bool.or_false, Bool.not_true, Bool.not_false, eq_self])) (j_6 _ _ _ rfl hW)
            · refine lv_aload_n hx hb dX12_offset_70 rfl (lv_at hl 3 rfl) ?_
              refine mr_get K hK hW hin 21 (by decide) lM_leg (v := .ref (ix 121)) rfl dX12_offset_71 ?_
              refine lv_iload_n hx hb dX12_offset_74 rfl (lv_at hl 0 rfl) ?_
              refine mr_iald K hK hW 21 (by decide) rfl (n := 60) rfl rfl ⟨by omega, by omega⟩ (v := S.1 21 (k)) rfl dX12_offset_75 ?_
              have w_13 := wf_21 hwf (k)
              refine xi_iconst hx hb dX12_offset_76 ?_
              refine xi_icmp_ne (tgt := 112) hx hb ⟨by omega, by omega⟩ ⟨by omega, by omega⟩ dX12_offset_77 (by decide) (fun c_14 => ?_) (fun c_14 => ?_)
              · refine xi_iconst hx hb dX12_offset_112 ?_
                exact xi_eq (z' := bI (offI S c k)) (bI_f (by simp only [offI, c_1, c_3, c_5, Int.not_le.mpr c_5, c_8, Int.not_le.mpr c_8, c_10, c_12, c_14, decide_true, decide_false, Bool.true_and, Bool.and_true, Bool.false_and, Bool.and_false, Bool.true_or, Bool.or_true, Bool.false_or, Bool.or_false, Bool.not_true, Bool.not_false, eq_self])) (j_6 _ _ _ rfl hW)
              · refine lv_aload_n hx hb dX12_offset_80 rfl (lv_at hl 3 rfl) ?_
                refine mr_get K hK hW hin 5 (by decide) lM_isOut (v := .ref (ix 105)) rfl dX12_offset_81 ?_
                refine lv_aload_n hx hb dX12_offset_84 rfl (lv_at hl 3 rfl) ?_
                refine mr_get K hK hW hin 9 (by decide) lM_from (v := .ref (ix 109)) rfl dX12_offset_85 ?_
                refine lv_iload_n hx hb dX12_offset_88 rfl (lv_at hl 0 rfl) ?_
                refine mr_iald K hK hW 9 (by decide) rfl (n := 60) rfl rfl ⟨by omega, by omega⟩ (v := S.1 9 (k)) rfl dX12_offset_89 ?_
                have w_15 := wf_9 hwf (k)
                refine mr_zald K hK hW 5 (by decide) rfl (n := 6) rfl rfl ⟨by omega, by omega⟩ (v := S.1 5 (S.1 9 (k))) rfl dX12_offset_90 ?_
                have w_16 := wf_5 hwf (S.1 9 (k))
                refine xi_if_ne (tgt := 112) hx hb ⟨by omega, by omega⟩ dX12_offset_91 (by decide) (fun c_17 => ?_) (fun c_17 => ?_)
                · refine xi_iconst hx hb dX12_offset_112 ?_
                  exact xi_eq (z' := bI (offI S c k)) (bI_f (by simp only [offI, c_1, c_3, c_5, Int.not_le.mpr c_5, c_8, Int.not_le.mpr c_8, c_10, c_12, c_14, c_17, decide_true, decide_false, Bool.true_and, Bool.and_true, Bool.false_and, Bool.and_false, Bool.true_or, Bool.or_true, Bool.false_or, Bool.or_false, Bool.not_true, Bool.not_false, eq_self])) (j_6 _ _ _ rfl hW)
                · refine lv_aload_n hx hb dX12_offset_94 rfl (lv_at hl 3 rfl) ?_
                  refine mr_get K hK hW hin 5 (by decide) lM_isOut (v := .ref (ix 105)) rfl dX12_offset_95 ?_
                  refine lv_aload_n hx hb dX12_offset_98 rfl (lv_at hl 3 rfl) ?_
                  refine mr_get K hK hW hin 10 (by decide) lM_to (v := .ref (ix 110)) rfl dX12_offset_99 ?_
                  refine lv_iload_n hx hb dX12_offset_102 rfl (lv_at hl 0 rfl) ?_
                  refine mr_iald K hK hW 10 (by decide) rfl (n := 60) rfl rfl ⟨by omega, by omega⟩ (v := S.1 10 (k)) rfl dX12_offset_103 ?_
                  have w_18 := wf_10 hwf (k)
                  refine mr_zald K hK hW 5 (by decide) rfl (n := 6) rfl rfl ⟨by omega, by omega⟩ (v := S.1 5 (S.1 10 (k))) rfl dX12_offset_104 ?_
                  have w_19 := wf_5 hwf (S.1 10 (k))
                  refine xi_if_ne (tgt := 112) hx hb ⟨by omega, by omega⟩ dX12_offset_105 (by decide) (fun c_20 => ?_) (fun c_20 => ?_)
                  · refine xi_iconst hx hb dX12_offset_112 ?_
                    exact xi_eq (z' := bI (offI S c k)) (bI_f (by simp only [offI, c_1, c_3, c_5, Int.not_le.mpr c_5, c_8, Int.not_le.mpr c_8, c_10, c_12, c_14, c_17, c_20, decide_true, decide_false, Bool.true_and, Bool.and_true, Bool.false_and, Bool.and_false, Bool.true_or, Bool.or_true, Bool.false_or, Bool.or_false, Bool.not_true, Bool.not_false, eq_self])) (j_6 _ _ _ rfl hW)
                  · refine xi_iconst hx hb dX12_offset_108 ?_
                    refine lv_goto (tgt := 113) hx hb dX12_offset_109 (by decide) ?_
                    exact xi_eq (z' := bI (offI S c k)) (bI_t (by simp only [offI, c_1, c_3, c_5, Int.not_le.mpr c_5, c_8, Int.not_le.mpr c_8, c_10, c_12, c_14, c_17, c_20, decide_true, decide_false, Bool.true_and, Bool.and_true, Bool.false_and, Bool.and_false, Bool.true_or, Bool.or_true, Bool.false_or, Bool.or_false, Bool.not_true, Bool.not_false, eq_self])) (j_6 _ _ _ rfl hW)
  · refine xi_iconst hx hb dX12_offset_13 ?_
    exact g_iret hx hb hr hW ⟨by rw [pOff, if_neg (by rw [c_1]; decide)], _, _, _, by rw [pOff, if_neg (by rw [c_1]; decide)]⟩ dX12_offset_14 hlk
theorem lsB_ok {S : ST} {x : Int × ST} {nm k : Int} {is : Bool} (h0 : 0 ≤ k) (h1 : k < 60) (h : okS x.2 ∧ cNF x.2 = cNF S ∧ 0 ≤ x.1 ∧ x.1 ≤ k ∧ ∀ f : Nat, f ≠ 18 → x.2.1 f = S.1 f) : okS (lsB nm is k x).2 ∧ cNF (lsB nm is k x).2 = cNF S ∧ 0 ≤ (lsB nm is k x).1 ∧ (lsB nm is k x).1 ≤ k + 1 ∧ ∀ f : Nat, f ≠ 18 → (lsB nm is k x).2.1 f = S.1 f := by
  obtain ⟨q1, q2, q3, q4, q5⟩ := h
  unfold lsB
  split
  · rename_i hc
    simp only [lsC, Bool.and_eq_true, Bool.or_eq_true, decide_eq_true_eq] at hc
    exact ⟨okS_18 q1 h0 h1 (by omega) (by decide) (by decide), (cNF_18 h0 h1 (by omega) (by decide)).trans q2, by show 0 ≤ x.1 + 1; omega, by show x.1 + 1 ≤ k + 1; omega, fun f hf => (pI_f _ _ _ hf).trans (q5 f hf)⟩
  · exact ⟨q1, q2, q3, by omega, q5⟩
theorem sList_s (S : ST) (nm : Int) (is : Bool) (n : Nat) : sList S nm is (n + 1) = lsB nm is n (sList S nm is n) := rfl
theorem sList_ok {S : ST} (ho : okS S) {nm : Int} {is : Bool} : ∀ n : Nat, n ≤ 60 → okS (sList S nm is n).2 ∧ cNF (sList S nm is n).2 = cNF S ∧ 0 ≤ (sList S nm is n).1 ∧ (sList S nm is n).1 ≤ n ∧ ∀ f : Nat, f ≠ 18 → (sList S nm is n).2.1 f = (pI S 7 nm (bI is)).1 f
  | 0, _ => ⟨okS_pI ho (f := 7) nm (bI is) (by decide) (by have := bI_01 is; exact ⟨by simp only [rLo]; omega, by simp only [rHi]; omega⟩), cNF_pI (by decide), Int.le_refl 0, Int.le_refl 0, fun _ _ => rfl⟩
  | n + 1, hn => by
    obtain ⟨q1, q2, q3, q4, q5⟩ := sList_ok ho (nm := nm) (is := is) n (by omega)
    have r := lsB_ok (S := pI S 7 nm (bI is)) (nm := nm) (is := is) (x := sList S nm is n) (k := n) (by omega) (by omega) ⟨q1, q2.trans (cNF_pI (by decide)).symm, q3, q4, q5⟩
    rw [sList_s]
    exact ⟨r.1, r.2.1.trans (cNF_pI (by decide)), r.2.2.1, by have := r.2.2.2.1; omega, r.2.2.2.2⟩
set_option maxHeartbeats 4000000 in
set_option maxRecDepth 100000 in
theorem c_M_list {l : Launch} {D : va_G} {cy : Nat → ClassId} {B0 : Nat} {ix : Nat → Nat} {S : ST} {I : Int → Bool} {aM qM : Int → Int64} {tM : Int} {G : gF} (nm : Int) (is : Bool) (h_nm : rI nm) (ho : okS S)  : gM l yX12_list vX12_list 5 117 D cy B0 [.ref (ix 100), .int (iI nm), .int (iI (bI is))] (mW cy ix S (mX I aM qM tM) G) (fun r g => r = some (.int (iI (pList S nm is).2.1)) ∧ ∃ (J : Int → Bool) (a q : Int → Int64), g = mW cy ix (pList S nm is).2.2 (mX J a q (pList S nm is).1) G) 0 0 := by
  refine g_start (cc := cX12_list) (maxL := 5) (ret := (some .int)) (by decide) rfl (Nat.le_of_ble_eq_true rfl) ?_
  intro p_ e_ s_ m_ be_ me_ co_ ls H locs K hr hlk hnm hK hW hl
  have hin : ∀ w ∈ wsX120, w ∈ vX12_list := wsM_cls
  obtain ⟨hx, hb, hml, hown, hts⟩ := id K
  have hl : lv_has ls 5 [(0, .ref (ix 100)), (1, .int (iI (nm))), (2, .int (iI (bI (is))))] := hl
  have hwf : wf S := ho.1
  have his := bI_01 is
  refine lv_aload_n hx hb dX12_list_0 rfl (lv_at hl 0 rfl) ?_
  refine lv_iload_n hx hb dX12_list_1 rfl (lv_at hl 1 rfl) ?_
  refine g_callS (As := [.int (iI (nm))]) (rest := [.ref (ix 100)]) K (c_M_isName (nm) ⟨by omega, by omega⟩) (va_cwS 1 hts gM_X12_isName rfl rfl rfl (by decide +kernel) ⟨Nat.le_of_ble_eq_true rfl, Nat.le_of_ble_eq_true rfl⟩) hK hW rfl hl.1 rfl (Nat.le_of_ble_eq_true rfl) dX12_list_2 ⟨Nat.le_refl _, Nat.le_refl _⟩ (fun v_ f_ H locs hp hW => ?_)
  obtain ⟨hpv, hpe⟩ := hp
  rw [hpe] at hW
  subst hpv
  refine xi_iconst hx hb dX12_list_5 ?_
  refine xi_iconst hx hb dX12_list_6 ?_
  refine g_callV (i := 0) (As := [.int (iI (bI (sIn (nm) 0 19))), .int (iI (1)), .int (iI (1))]) (rest := []) K (c_M_goes (sIn (nm) 0 19) (true) (true)) (cwV 3 hts gM_X12_goes rfl rfl rfl (by decide +kernel) ⟨Nat.le_of_ble_eq_true rfl, Nat.le_of_ble_eq_true rfl⟩) hK hW (mW_0 _ _ _ _ _) rfl rfl hl.1 rfl (Nat.le_of_ble_eq_true rfl) dX12_list_7 ⟨Nat.le_refl _, Nat.le_refl _⟩ (fun v_ f_ H locs hp hW => ?_)
  obtain ⟨hpv, hpe⟩ := hp
  rw [hpe] at hW
  subst hpv
  refine xi_ifb_ne (tgt := 15) hx hb dX12_list_10 (by decide) (fun c_1 => ?_) (fun c_1 => ?_)
  · have hg := c_1
    simp only [sIn, Bool.and_eq_true, Bool.or_eq_true, decide_eq_true_eq, Bool.not_eq_true', decide_eq_false_iff_not, and_true, true_and] at hg
    have h80 := wf_8 hwf 0
    refine lv_aload_n hx hb dX12_list_15 rfl (lv_at hl 0 rfl) ?_
    refine mr_get K hK hW hin 7 (by decide) lM_isListed (v := .ref (ix 107)) rfl dX12_list_16 ?_
    refine lv_iload_n hx hb dX12_list_19 rfl (lv_at hl 1 rfl) ?_
    refine lv_iload_n hx hb dX12_list_20 rfl (lv_at hl 2 rfl) ?_
    refine mr_zast K hK hW 7 (by decide) rfl (by decide) (n := 20) rfl rfl ⟨by omega, by omega⟩ (bI_01 _) dX12_list_21 (fun H locs hW => ?_)
    refine xi_iconst hx hb dX12_list_22 ?_
    refine lv_istore_n (lv' := [(3, .int (iI (0))), (0, .ref (ix 100)), (1, .int (iI (nm))), (2, .int (iI (bI (is))))]) hx hb dX12_list_23 rfl hl (by decide) rfl (fun ls hl => ?_)
    refine xi_iconst hx hb dX12_list_24 ?_
    refine lv_istore (lv' := [(4, .int (iI (0))), (3, .int (iI (0))), (0, .ref (ix 100)), (1, .int (iI (nm))), (2, .int (iI (bI (is))))]) hx hb dX12_list_25 hl (by decide) rfl (fun ls hl => ?_)
    refine lp_w2 (Wg := fun (H : Heap) (locs : List Loc) (ls : Array Slot) => W p_ l e_ { frames := 5, cells := 0, slots := 0, locals := 117 } s_ m_ ([.ref (ix 100), .int (iI nm), .int (iI (bI is))] : List Value).toArray be_ me_ co_ H locs 0 0 (MQ be_ (gQ D B0 (fun (r : Option Value) (g : gF) => r = some (.int (iI (pList S nm is).2.1)) ∧ ∃ (J : Int → Bool) (a q : Int → Int64), g = mW cy ix (pList S nm is).2.2 (mX J a q (pList S nm is).1) G)) ([.ref (ix 100), .int (iI nm), .int (iI (bI is))] : List Value).toArray s_ 0 0 (fun q : Nat => B0 ≤ q)) (F0 m_ 27 ls [])) (fun (k : Int) (y : Int × ST) (H : Heap) (locs : List Loc) (ls : Array Slot) => ((0 ≤ k ∧ k ≤ S.1 8 0) ∧ y = sList S nm is k.toNat) ∧ gW D B0 s_ (mW cy ix y.2 (mX (I) (aM) (qM) (sGo (sIn (nm) 0 19) true true)) G) H locs ∧ lv_has ls 5 [(4, .int (iI (k))), (3, .int (iI (y.1))), (2, .int (iI (bI (is)))), (1, .int (iI (nm))), (0, .ref (ix 100))]) (fun (k : Int) (y : Int × ST) => (60 - k).toNat) (fun k y H locs ls hI ih_lp_2 => ?_) (0) ((0, pI S 7 nm (bI is))) _ _ _ ⟨⟨⟨by decide, by omega⟩, rfl⟩, hW, lv_sub hl [0, 1, 4, 3, 2] rfl⟩
    obtain ⟨hI_lp_2, hW, hl⟩ := hI
    obtain ⟨hk, hy⟩ := hI_lp_2
    have hys := sList_ok ho (nm := nm) (is := is) k.toNat (by omega)
    rw [← hy] at hys
    have hy8 : y.2.1 8 0 = S.1 8 0 := by rw [hys.2.2.2.2 8 (by decide), pI_f _ _ _ (show (8 : Nat) ≠ 7 by decide)]
    refine lv_iload hx hb dX12_list_27 (lv_at hl 0 rfl) ?_
    refine lv_aload_n hx hb dX12_list_29 rfl (lv_at hl 4 rfl) ?_
    refine mr_get K hK hW hin 8 (by decide) lM_payments (v := .int (iI ((y.2).1 8 (0)))) rfl dX12_list_30 ?_
    have w_w_3 := wf_8 hys.1.1 0
    refine xi_icmp_ge (tgt := 100) hx hb ⟨by omega, by omega⟩ ⟨by omega, by omega⟩ dX12_list_33 (by decide) (fun c_4 => ?_) (fun c_4 => ?_)
    · have hke : k.toNat = nP S := by unfold nP; omega
      rw [hke] at hy
      refine lv_aload_n hx hb dX12_list_100 rfl (lv_at hl 4 rfl) ?_
      refine g_callV (i := 0) (As := []) (rest := []) K (c_M_runs hys.1) (cwV 0 hts gM_X12_runs rfl rfl rfl (by decide +kernel) ⟨Nat.le_of_ble_eq_true rfl, Nat.le_of_ble_eq_true rfl⟩) hK hW (mW_0 _ _ _ _ _) rfl rfl hl.1 rfl (Nat.le_of_ble_eq_true rfl) dX12_list_101 ⟨Nat.le_refl _, Nat.le_refl _⟩ (fun v_ f_ H locs hp hW => ?_)
      obtain ⟨hpv, J, a, q, hpe⟩ := hp
      rw [hpe] at hW
      subst hpv
      refine lv_istore (lv' := [(4, .int (iI ((sRuns (y.2)).1))), (3, .int (iI (y.1))), (2, .int (iI (bI (is)))), (1, .int (iI (nm))), (0, .ref (ix 100))]) hx hb dX12_list_104 hl (by decide) rfl (fun ls hl => ?_)
      refine lv_iload_n hx hb dX12_list_106 rfl (lv_at hl 1 rfl) ?_
      exact g_iret hx hb hr hW ⟨by rw [pList, if_pos c_1, ← hy], _, _, _, by rw [pList, if_pos c_1, ← hy]⟩ dX12_list_107 hlk
    · refine lv_iload_n hx hb dX12_list_36 rfl (lv_at hl 2 rfl) ?_
      refine xi_ifb_eq (tgt := 94) hx hb dX12_list_37 (by decide) (fun c_5 => ?_) (fun c_5 => ?_)
      · refine xi_iinc (lv' := [(4, .int (iI (k + 1))), (3, .int (iI (y.1))), (2, .int (iI (bI (is)))), (1, .int (iI (nm))), (0, .ref (ix 100))]) hx hb dX12_list_94 hl (k := 0) rfl (by decide) rfl (fun ls hl => ?_)
        refine lv_goto (tgt := 27) hx hb dX12_list_97 (by decide) ?_
        have hlc : lsC y.2 nm is k = false := by simp only [lsC, c_5, decide_true, decide_false, Bool.true_and, Bool.and_true, Bool.false_and, Bool.and_false, Bool.true_or, Bool.or_true, Bool.false_or, Bool.or_false, Bool.not_true, Bool.not_false, eq_self]
        have hls : lsB nm is k y = (y.1, y.2) := by rw [lsB, hlc]; rfl
        have hW : gW D B0 s_ (mW cy ix (lsB nm is k y).2 (mX (I) (aM) (qM) (sGo (sIn (nm) 0 19) true true)) G) H locs := by rw [hls]; exact hW
        have hl : lv_has ls 5 [(4, .int (iI (k + 1))), (3, .int (iI ((lsB nm is k y).1))), (2, .int (iI (bI (is)))), (1, .int (iI (nm))), (0, .ref (ix 100))] := by rw [hls]; exact lv_sub hl [0, 1, 2, 3, 4] rfl
        exact ih_lp_2 (k + 1) (lsB nm is k y) _ _ _ (by have := wf_8 hwf 0; first | omega | (dsimp only; omega)) ⟨⟨⟨by omega, by omega⟩, by rw [show (k + 1).toNat = k.toNat + 1 by omega, sList_s, show ((k.toNat : Nat) : Int) = k by omega, ← hy]⟩, hW, lv_sub hl [0, 1, 2, 3, 4] rfl⟩
      · refine lv_aload_n hx hb dX12_list_40 rfl (lv_at hl 4 rfl) ?_
        refine mr_get K hK hW hin 13 (by decide) lM_payee (v := .ref (ix 113)) rfl dX12_list_41 ?_
        refine lv_iload hx hb dX12_list_44 (lv_at hl 0 rfl) ?_
        refine mr_iald K hK hW 13 (by decide) rfl (n := 60) rfl rfl ⟨by omega, by omega⟩ (v := (y.2).1 13 (k)) rfl dX12_list_46 ?_
        have w_6 := wf_13 hys.1.1 (k)
        refine lv_iload_n hx hb dX12_list_47 rfl (lv_at hl 3 rfl) ?_
        refine xi_icmp_ne (tgt := 94) hx hb ⟨by omega, by omega⟩ ⟨by omega, by omega⟩ dX12_list_48 (by decide) (fun c_7 => ?_) (fun c_7 => ?_)
        · refine xi_iinc (lv' := [(4, .int (iI (k + 1))), (3, .int (iI (y.1))), (2, .int (iI (bI (is)))), (1, .int (iI (nm))), (0, .ref (ix 100))]) hx hb dX12_list_94 hl (k := 0) rfl (by decide) rfl (fun ls hl => ?_)
          refine lv_goto (tgt := 27) hx hb dX12_list_97 (by decide) ?_
          have hlc : lsC y.2 nm is k = false := by simp only [lsC, c_5, c_7, decide_true, decide_false, Bool.true_and, Bool.and_true, Bool.false_and, Bool.and_false, Bool.true_or, Bool.or_true, Bool.false_or, Bool.or_false, Bool.not_true, Bool.not_false, eq_self]
          have hls : lsB nm is k y = (y.1, y.2) := by rw [lsB, hlc]; rfl
          have hW : gW D B0 s_ (mW cy ix (lsB nm is k y).2 (mX (I) (aM) (qM) (sGo (sIn (nm) 0 19) true true)) G) H locs := by rw [hls]; exact hW
          have hl : lv_has ls 5 [(4, .int (iI (k + 1))), (3, .int (iI ((lsB nm is k y).1))), (2, .int (iI (bI (is)))), (1, .int (iI (nm))), (0, .ref (ix 100))] := by rw [hls]; exact lv_sub hl [0, 1, 2, 3, 4] rfl
          exact ih_lp_2 (k + 1) (lsB nm is k y) _ _ _ (by have := wf_8 hwf 0; first | omega | (dsimp only; omega)) ⟨⟨⟨by omega, by omega⟩, by rw [show (k + 1).toNat = k.toNat + 1 by omega, sList_s, show ((k.toNat : Nat) : Int) = k by omega, ← hy]⟩, hW, lv_sub hl [0, 1, 2, 3, 4] rfl⟩
        · refine lv_aload_n hx hb dX12_list_51 rfl (lv_at hl 4 rfl) ?_
          refine mr_get K hK hW hin 19 (by decide) lM_isReleased (v := .ref (ix 119)) rfl dX12_list_52 ?_
          refine lv_iload hx hb dX12_list_55 (lv_at hl 0 rfl) ?_
          refine mr_zald K hK hW 19 (by decide) rfl (n := 60) rfl rfl ⟨by omega, by omega⟩ (v := (y.2).1 19 (k)) rfl dX12_list_57 ?_
          have w_8 := wf_19 hys.1.1 (k)
          refine xi_if_ne (tgt := 94) hx hb ⟨by omega, by omega⟩ dX12_list_58 (by decide) (fun c_9 => ?_) (fun c_9 => ?_)
          · refine xi_iinc (lv' := [(4, .int (iI (k + 1))), (3, .int (iI (y.1))), (2, .int (iI (bI (is)))), (1, .int (iI (nm))), (0, .ref (ix 100))]) hx hb dX12_list_94 hl (k := 0) rfl (by decide) rfl (fun ls hl => ?_)
            refine lv_goto (tgt := 27) hx hb dX12_list_97 (by decide) ?_
            have hlc : lsC y.2 nm is k = false := by simp only [lsC, c_5, c_7, c_9, decide_true, decide_false, Bool.true_and, Bool.and_true, Bool.false_and, Bool.and_false, Bool.true_or, Bool.or_true, Bool.false_or, Bool.or_false, Bool.not_true, Bool.not_false, eq_self]
            have hls : lsB nm is k y = (y.1, y.2) := by rw [lsB, hlc]; rfl
            have hW : gW D B0 s_ (mW cy ix (lsB nm is k y).2 (mX (I) (aM) (qM) (sGo (sIn (nm) 0 19) true true)) G) H locs := by rw [hls]; exact hW
            have hl : lv_has ls 5 [(4, .int (iI (k + 1))), (3, .int (iI ((lsB nm is k y).1))), (2, .int (iI (bI (is)))), (1, .int (iI (nm))), (0, .ref (ix 100))] := by rw [hls]; exact lv_sub hl [0, 1, 2, 3, 4] rfl
            exact ih_lp_2 (k + 1) (lsB nm is k y) _ _ _ (by have := wf_8 hwf 0; first | omega | (dsimp only; omega)) ⟨⟨⟨by omega, by omega⟩, by rw [show (k + 1).toNat = k.toNat + 1 by omega, sList_s, show ((k.toNat : Nat) : Int) = k by omega, ← hy]⟩, hW, lv_sub hl [0, 1, 2, 3, 4] rfl⟩
          · refine lv_aload_n hx hb dX12_list_61 rfl (lv_at hl 4 rfl) ?_
            refine mr_get K hK hW hin 18 (by decide) lM_state (v := .ref (ix 118)) rfl dX12_list_62 ?_
            refine lv_iload hx hb dX12_list_65 (lv_at hl 0 rfl) ?_
            refine mr_iald K hK hW 18 (by decide) rfl (n := 60) rfl rfl ⟨by omega, by omega⟩ (v := (y.2).1 18 (k)) rfl dX12_list_67 ?_
            have w_10 := wf_18 hys.1.1 (k)
            refine xi_iconst hx hb dX12_list_68 ?_
            refine xi_icmp_eq (tgt := 83) hx hb ⟨by omega, by omega⟩ ⟨by omega, by omega⟩ dX12_list_69 (by decide) (fun c_11 => ?_) (fun c_11 => ?_)
            · refine lv_aload_n hx hb dX12_list_83 rfl (lv_at hl 4 rfl) ?_
              refine mr_get K hK hW hin 18 (by decide) lM_state (v := .ref (ix 118)) rfl dX12_list_84 ?_
              refine lv_iload hx hb dX12_list_87 (lv_at hl 0 rfl) ?_
              refine xi_iconst hx hb dX12_list_89 ?_
              refine mr_iast K hK hW 18 (by decide) rfl (n := 60) rfl rfl ⟨by omega, by omega⟩ dX12_list_90 (fun H locs hW => ?_)
              refine xi_iinc (lv' := [(3, .int (iI (y.1 + 1))), (4, .int (iI (k))), (2, .int (iI (bI (is)))), (1, .int (iI (nm))), (0, .ref (ix 100))]) hx hb dX12_list_91 hl (k := 1) rfl (by decide) rfl (fun ls hl => ?_)
              refine xi_iinc (lv' := [(4, .int (iI (k + 1))), (3, .int (iI (y.1 + 1))), (2, .int (iI (bI (is)))), (1, .int (iI (nm))), (0, .ref (ix 100))]) hx hb dX12_list_94 hl (k := 1) rfl (by decide) rfl (fun ls hl => ?_)
              refine lv_goto (tgt := 27) hx hb dX12_list_97 (by decide) ?_
              have hlc : lsC y.2 nm is k = true := by simp only [lsC, c_5, c_7, c_9, c_11, decide_true, decide_false, Bool.true_and, Bool.and_true, Bool.false_and, Bool.and_false, Bool.true_or, Bool.or_true, Bool.false_or, Bool.or_false, Bool.not_true, Bool.not_false, eq_self]
              have hls : lsB nm is k y = (y.1 + 1, pI y.2 18 (k) (1)) := by rw [lsB, hlc]; rfl
              have hW : gW D B0 s_ (mW cy ix (lsB nm is k y).2 (mX (I) (aM) (qM) (sGo (sIn (nm) 0 19) true true)) G) H locs := by rw [hls]; exact hW
              have hl : lv_has ls 5 [(4, .int (iI (k + 1))), (3, .int (iI ((lsB nm is k y).1))), (2, .int (iI (bI (is)))), (1, .int (iI (nm))), (0, .ref (ix 100))] := by rw [hls]; exact lv_sub hl [0, 1, 2, 3, 4] rfl
              exact ih_lp_2 (k + 1) (lsB nm is k y) _ _ _ (by have := wf_8 hwf 0; first | omega | (dsimp only; omega)) ⟨⟨⟨by omega, by omega⟩, by rw [show (k + 1).toNat = k.toNat + 1 by omega, sList_s, show ((k.toNat : Nat) : Int) = k by omega, ← hy]⟩, hW, lv_sub hl [0, 1, 2, 3, 4] rfl⟩
            · refine lv_aload_n hx hb dX12_list_72 rfl (lv_at hl 4 rfl) ?_
              refine mr_get K hK hW hin 18 (by decide) lM_state (v := .ref (ix 118)) rfl dX12_list_73 ?_
              refine lv_iload hx hb dX12_list_76 (lv_at hl 0 rfl) ?_
              refine mr_iald K hK hW 18 (by decide) rfl (n := 60) rfl rfl ⟨by omega, by omega⟩ (v := (y.2).1 18 (k)) rfl dX12_list_78 ?_
              have w_12 := wf_18 hys.1.1 (k)
              refine xi_iconst hx hb dX12_list_79 ?_
              refine xi_icmp_ne (tgt := 94) hx hb ⟨by omega, by omega⟩ ⟨by omega, by omega⟩ dX12_list_80 (by decide) (fun c_13 => ?_) (fun c_13 => ?_)
              · refine xi_iinc (lv' := [(4, .int (iI (k + 1))), (3, .int (iI (y.1))), (2, .int (iI (bI (is)))), (1, .int (iI (nm))), (0, .ref (ix 100))]) hx hb dX12_list_94 hl (k := 0) rfl (by decide) rfl (fun ls hl => ?_)
                refine lv_goto (tgt := 27) hx hb dX12_list_97 (by decide) ?_
                have hlc : lsC y.2 nm is k = false := by simp only [lsC, c_5, c_7, c_9, c_11, c_13, decide_true, decide_false, Bool.true_and, Bool.and_true, Bool.false_and, Bool.and_false, Bool.true_or, Bool.or_true, Bool.false_or, Bool.or_false, Bool.not_true, Bool.not_false, eq_self]
                have hls : lsB nm is k y = (y.1, y.2) := by rw [lsB, hlc]; rfl
                have hW : gW D B0 s_ (mW cy ix (lsB nm is k y).2 (mX (I) (aM) (qM) (sGo (sIn (nm) 0 19) true true)) G) H locs := by rw [hls]; exact hW
                have hl : lv_has ls 5 [(4, .int (iI (k + 1))), (3, .int (iI ((lsB nm is k y).1))), (2, .int (iI (bI (is)))), (1, .int (iI (nm))), (0, .ref (ix 100))] := by rw [hls]; exact lv_sub hl [0, 1, 2, 3, 4] rfl
                exact ih_lp_2 (k + 1) (lsB nm is k y) _ _ _ (by have := wf_8 hwf 0; first | omega | (dsimp only; omega)) ⟨⟨⟨by omega, by omega⟩, by rw [show (k + 1).toNat = k.toNat + 1 by omega, sList_s, show ((k.toNat : Nat) : Int) = k by omega, ← hy]⟩, hW, lv_sub hl [0, 1, 2, 3, 4] rfl⟩
              · refine lv_aload_n hx hb dX12_list_83 rfl (lv_at hl 4 rfl) ?_
                refine mr_get K hK hW hin 18 (by decide) lM_state (v := .ref (ix 118)) rfl dX12_list_84 ?_
                refine lv_iload hx hb dX12_list_87 (lv_at hl 0 rfl) ?_
                refine xi_iconst hx hb dX12_list_89 ?_
                refine mr_iast K hK hW 18 (by decide) rfl (n := 60) rfl rfl ⟨by omega, by omega⟩ dX12_list_90 (fun H locs hW => ?_)
                refine xi_iinc (lv' := [(3, .int (iI (y.1 + 1))), (4, .int (iI (k))), (2, .int (iI (bI (is)))), (1, .int (iI (nm))), (0, .ref (ix 100))]) hx hb dX12_list_91 hl (k := 1) rfl (by decide) rfl (fun ls hl => ?_)
                refine xi_iinc (lv' := [(4, .int (iI (k + 1))), (3, .int (iI (y.1 + 1))), (2, .int (iI (bI (is)))), (1, .int (iI (nm))), (0, .ref (ix 100))]) hx hb dX12_list_94 hl (k := 1) rfl (by decide) rfl (fun ls hl => ?_)
                refine lv_goto (tgt := 27) hx hb dX12_list_97 (by decide) ?_
                have hlc : lsC y.2 nm is k = true := by simp only [lsC, c_5, c_7, c_9, c_11, c_13, decide_true, decide_false, Bool.true_and, Bool.and_true, Bool.false_and, Bool.and_false, Bool.true_or, Bool.or_true, Bool.false_or, Bool.or_false, Bool.not_true, Bool.not_false, eq_self]
                have hls : lsB nm is k y = (y.1 + 1, pI y.2 18 (k) (1)) := by rw [lsB, hlc]; rfl
                have hW : gW D B0 s_ (mW cy ix (lsB nm is k y).2 (mX (I) (aM) (qM) (sGo (sIn (nm) 0 19) true true)) G) H locs := by rw [hls]; exact hW
                have hl : lv_has ls 5 [(4, .int (iI (k + 1))), (3, .int (iI ((lsB nm is k y).1))), (2, .int (iI (bI (is)))), (1, .int (iI (nm))), (0, .ref (ix 100))] := by rw [hls]; exact lv_sub hl [0, 1, 2, 3, 4] rfl
                exact ih_lp_2 (k + 1) (lsB nm is k y) _ _ _ (by have := wf_8 hwf 0; first | omega | (dsimp only; omega)) ⟨⟨⟨by omega, by omega⟩, by rw [show (k + 1).toNat = k.toNat + 1 by omega, sList_s, show ((k.toNat : Nat) : Int) = k by omega, ← hy]⟩, hW, lv_sub hl [0, 1, 2, 3, 4] rfl⟩
  · refine xi_iconst hx hb dX12_list_13 ?_
    exact g_iret hx hb hr hW ⟨by rw [pList, if_neg (by rw [c_1]; decide)], _, _, _, by rw [pList, if_neg (by rw [c_1]; decide)]⟩ dX12_list_14 hlk
set_option maxHeartbeats 4000000 in
set_option maxRecDepth 100000 in
theorem c_M_release {l : Launch} {D : va_G} {cy : Nat → ClassId} {B0 : Nat} {ix : Nat → Nat} {S : ST} {I : Int → Bool} {aM qM : Int → Int64} {tM : Int} {G : gF} (k : Int) (y : Int) (h_k : rI k) (h_y : rI y) (ho : okS S)  : gM l yX12_release vX12_release 5 117 D cy B0 [.ref (ix 100), .int (iI k), .int (iI y)] (mW cy ix S (mX I aM qM tM) G) (fun r g => r = some (.int (iI (pRel S k y).2.1)) ∧ ∃ (J : Int → Bool) (a q : Int → Int64), g = mW cy ix (pRel S k y).2.2 (mX J a q (pRel S k y).1) G) 0 0 := by
  refine g_start (cc := cX12_release) (maxL := 6) (ret := (some .boolean)) (by decide) rfl (Nat.le_of_ble_eq_true rfl) ?_
  intro p_ e_ s_ m_ be_ me_ co_ ls H locs K hr hlk hnm hK hW hl
  have hin : ∀ w ∈ wsX120, w ∈ vX12_release := wsM_cls
  obtain ⟨hx, hb, hml, hown, hts⟩ := id K
  have hl : lv_has ls 6 [(0, .ref (ix 100)), (1, .int (iI (k))), (2, .int (iI (y)))] := hl
  have hwf : wf S := ho.1
  have j_1 : ∀ (zJ : Bool) (H : Heap) (locs : List Loc), zJ = (okR1 S k y) → gW D B0 s_ (mW cy ix S (mX (I) (aM) (qM) (tM)) G) H locs → W p_ l e_ { frames := 5, cells := 0, slots := 0, locals := 117 } s_ m_ ([.ref (ix 100), .int (iI k), .int (iI y)] : List Value).toArray be_ me_ co_ H locs 0 0 (MQ be_ (gQ D B0 (fun (r : Option Value) (g : gF) => r = some (.int (iI (pRel S k y).2.1)) ∧ ∃ (J : Int → Bool) (a q : Int → Int64), g = mW cy ix (pRel S k y).2.2 (mX J a q (pRel S k y).1) G)) ([.ref (ix 100), .int (iI k), .int (iI y)] : List Value).toArray s_ 0 0 (fun q : Nat => B0 ≤ q)) (F0 m_ 22 ls [.int (iI (bI (zJ)))]) := by
    intro zJ H locs hzJ hW
    subst hzJ
    refine lv_istore_n (lv' := [(3, .int (iI (bI (okR1 S k y)))), (0, .ref (ix 100)), (1, .int (iI (k))), (2, .int (iI (y)))]) hx hb dX12_release_22 rfl hl (by decide) rfl (fun ls hl => ?_)
    refine lv_aload_n hx hb dX12_release_23 rfl (lv_at hl 1 rfl) ?_
    refine lv_iload_n hx hb dX12_release_24 rfl (lv_at hl 0 rfl) ?_
    have j_2 : ∀ (zJ : Bool) (H : Heap) (locs : List Loc), zJ = (okR2 S k y) → gW D B0 s_ (mW cy ix S (mX (I) (aM) (qM) (tM)) G) H locs → W p_ l e_ { frames := 5, cells := 0, slots := 0, locals := 117 } s_ m_ ([.ref (ix 100), .int (iI k), .int (iI y)] : List Value).toArray be_ me_ co_ H locs 0 0 (MQ be_ (gQ D B0 (fun (r : Option Value) (g : gF) => r = some (.int (iI (pRel S k y).2.1)) ∧ ∃ (J : Int → Bool) (a q : Int → Int64), g = mW cy ix (pRel S k y).2.2 (mX J a q (pRel S k y).1) G)) ([.ref (ix 100), .int (iI k), .int (iI y)] : List Value).toArray s_ 0 0 (fun q : Nat => B0 ≤ q)) (F0 m_ 54 ls [.int (iI (bI (zJ))), .int (iI (bI (okR1 S k y))), .ref (ix 100)]) := by
      intro zJ H locs hzJ hW
      subst hzJ
      refine xi_iconst hx hb dX12_release_54 ?_
      refine g_callV (i := 0) (As := [.int (iI (bI (okR1 S k y))), .int (iI (bI (okR2 S k y))), .int (iI (1))]) (rest := []) K (c_M_goes (okR1 S k y) (okR2 S k y) (true)) (cwV 3 hts gM_X12_goes rfl rfl rfl (by decide +kernel) ⟨Nat.le_of_ble_eq_true rfl, Nat.le_of_ble_eq_true rfl⟩) hK hW (mW_0 _ _ _ _ _) rfl rfl hl.1 rfl (Nat.le_of_ble_eq_true rfl) dX12_release_55 ⟨Nat.le_refl _, Nat.le_refl _⟩ (fun v_ f_ H locs hp hW => ?_)
      obtain ⟨hpv, hpe⟩ := hp
      rw [hpe] at hW
      subst hpv
      refine xi_ifb_ne (tgt := 63) hx hb dX12_release_58 (by decide) (fun c_3 => ?_) (fun c_3 => ?_)
      · have hg := c_3
        simp only [okR2, okR1, okP, sIn, Bool.and_eq_true, Bool.or_eq_true, decide_eq_true_eq, Bool.not_eq_true', decide_eq_false_iff_not, and_true, true_and] at hg
        have h80 := wf_8 hwf 0
        have j_4 : ∀ (zJ : Bool) (H : Heap) (locs : List Loc), zJ = (!decide (S.1 20 k = -1)) → gW D B0 s_ (mW cy ix S (mX (I) (aM) (qM) (sGo (okR1 S k y) (okR2 S k y) true)) G) H locs → W p_ l e_ { frames := 5, cells := 0, slots := 0, locals := 117 } s_ m_ ([.ref (ix 100), .int (iI k), .int (iI y)] : List Value).toArray be_ me_ co_ H locs 0 0 (MQ be_ (gQ D B0 (fun (r : Option Value) (g : gF) => r = some (.int (iI (pRel S k y).2.1)) ∧ ∃ (J : Int → Bool) (a q : Int → Int64), g = mW cy ix (pRel S k y).2.2 (mX J a q (pRel S k y).1) G)) ([.ref (ix 100), .int (iI k), .int (iI y)] : List Value).toArray s_ 0 0 (fun q : Nat => B0 ≤ q)) (F0 m_ 78 ls [.int (iI (bI (zJ)))]) := by
          intro zJ H locs hzJ hW
          subst hzJ
          refine lv_istore (lv' := [(4, .int (iI (bI (!decide (S.1 20 k = -1))))), (3, .int (iI (bI (okR1 S k y)))), (0, .ref (ix 100)), (1, .int (iI (k))), (2, .int (iI (y)))]) hx hb dX12_release_78 hl (by decide) rfl (fun ls hl => ?_)
          refine lv_iload hx hb dX12_release_80 (lv_at hl 0 rfl) ?_
          refine xi_ifb_eq (tgt := 106) hx hb dX12_release_82 (by decide) (fun c_5 => ?_) (fun c_5 => ?_)
          · have hof1 : S.1 20 k = -1 := by simpa using c_5
            have hof2 : (bI (!decide (S.1 20 k = -1))) = 0 := by rw [hof1]; decide
            refine lv_aload_n hx hb dX12_release_106 rfl (lv_at hl 2 rfl) ?_
            refine mr_get K hK hW hin 20 (by decide) lM_officer (v := .ref (ix 120)) rfl dX12_release_107 ?_
            refine lv_iload_n hx hb dX12_release_110 rfl (lv_at hl 3 rfl) ?_
            refine lv_iload_n hx hb dX12_release_111 rfl (lv_at hl 4 rfl) ?_
            refine mr_iast K hK hW 20 (by decide) rfl (n := 60) rfl rfl ⟨by omega, by omega⟩ dX12_release_112 (fun H locs hW => ?_)
            refine lv_iload hx hb dX12_release_113 (lv_at hl 0 rfl) ?_
            exact g_zret hx hb hr (bI_01 _) hW ⟨by rw [pRel, if_pos c_3, if_pos hof1, hof2], _, _, _, by rw [pRel, if_pos c_3, if_pos hof1]; exact (mW_g (by decide) rfl).symm⟩ dX12_release_115 hlk
          · have hof1 : ¬ S.1 20 k = -1 := by simpa using c_5
            have hof2 : (bI (!decide (S.1 20 k = -1))) = 1 := by simp [bI, hof1]
            refine lv_aload_n hx hb dX12_release_85 rfl (lv_at hl 2 rfl) ?_
            refine mr_get K hK hW hin 19 (by decide) lM_isReleased (v := .ref (ix 119)) rfl dX12_release_86 ?_
            refine lv_iload_n hx hb dX12_release_89 rfl (lv_at hl 3 rfl) ?_
            refine xi_iconst hx hb dX12_release_90 ?_
            refine mr_zast K hK hW 19 (by decide) rfl (by decide) (n := 60) rfl rfl ⟨by omega, by omega⟩ (by omega) dX12_release_91 (fun H locs hW => ?_)
            refine lv_aload_n hx hb dX12_release_92 rfl (lv_at hl 2 rfl) ?_
            refine lv_iload_n hx hb dX12_release_93 rfl (lv_at hl 3 rfl) ?_
            refine g_callV (i := 0) (As := [.int (iI (k))]) (rest := []) K (c_M_enters (k) ⟨by omega, by omega⟩ (wf_pI (f := 19) hwf (k) (1) (by simp only [rLo, rHi]; omega))) (cwV 1 hts gM_X12_enters rfl rfl rfl (by decide +kernel) ⟨Nat.le_of_ble_eq_true rfl, Nat.le_of_ble_eq_true rfl⟩) hK hW (mW_0 _ _ _ _ _) rfl rfl hl.1 rfl (Nat.le_of_ble_eq_true rfl) dX12_release_94 ⟨Nat.le_refl _, Nat.le_refl _⟩ (fun v_ f_ H locs hp hW => ?_)
            obtain ⟨hpv, hpe⟩ := hp
            rw [hpe] at hW
            subst hpv
            have hW : gW D B0 s_ (mW cy ix (pI (sEnter (pI S 19 k 1) k) 40 k y) (mX (I) (aM) (qM) (sGo (okR1 S k y) (okR2 S k y) true)) G) H locs := by rw [mW_g (by decide) rfl]; exact hW
            refine lv_aload_n hx hb dX12_release_97 rfl (lv_at hl 2 rfl) ?_
            refine g_callV (i := 0) (As := []) (rest := []) K (c_M_runs (okS_pI (okS_ent (okS_pI ho (f := 19) k 1 (by decide) ⟨by simp only [rLo]; omega, by simp only [rHi]; omega⟩) (by omega) (by omega) (by rw [pI_f _ _ _ (show (18 : Nat) ≠ 19 by decide)]; omega)) (f := 40) k y (by decide) ⟨by simp only [rLo]; omega, by simp only [rHi]; omega⟩)) (cwV 0 hts gM_X12_runs rfl rfl rfl (by decide +kernel) ⟨Nat.le_of_ble_eq_true rfl, Nat.le_of_ble_eq_true rfl⟩) hK hW (mW_0 _ _ _ _ _) rfl rfl hl.1 rfl (Nat.le_of_ble_eq_true rfl) dX12_release_98 ⟨Nat.le_refl _, Nat.le_refl _⟩ (fun v_ f_ H locs hp hW => ?_)
            obtain ⟨hpv, J, a, q, hpe⟩ := hp
            rw [hpe] at hW
            subst hpv
            refine lv_istore (lv' := [(5, .int (iI ((sRuns (pI (sEnter (pI S 19 k 1) k) 40 k y)).1))), (4, .int (iI (bI (!decide (S.1 20 k = -1))))), (3, .int (iI (bI (okR1 S k y)))), (0, .ref (ix 100)), (1, .int (iI (k))), (2, .int (iI (y)))]) hx hb dX12_release_101 hl (by decide) rfl (fun ls hl => ?_)
            refine lv_goto (tgt := 113) hx hb dX12_release_103 (by decide) ?_
            refine lv_iload hx hb dX12_release_113 (lv_at hl 1 rfl) ?_
            exact g_zret hx hb hr (bI_01 _) hW ⟨by rw [pRel, if_pos c_3, if_neg hof1, hof2], _, _, _, by rw [pRel, if_pos c_3, if_neg hof1]⟩ dX12_release_115 hlk
        refine lv_aload_n hx hb dX12_release_63 rfl (lv_at hl 1 rfl) ?_
        refine mr_get K hK hW hin 20 (by decide) lM_officer (v := .ref (ix 120)) rfl dX12_release_64 ?_
        refine lv_iload_n hx hb dX12_release_67 rfl (lv_at hl 2 rfl) ?_
        refine mr_iald K hK hW 20 (by decide) rfl (n := 60) rfl rfl ⟨by omega, by omega⟩ (v := S.1 20 (k)) rfl dX12_release_68 ?_
        have w_6 := wf_20 hwf (k)
        refine xi_iconst hx hb dX12_release_69 ?_
        refine xi_icmp_eq (tgt := 77) hx hb ⟨by omega, by omega⟩ ⟨by omega, by omega⟩ dX12_release_70 (by decide) (fun c_7 => ?_) (fun c_7 => ?_)
        · refine xi_iconst hx hb dX12_release_77 ?_
          exact xi_eq (z' := bI (!decide (S.1 20 k = -1))) (bI_f (by simp only [c_3, c_7, decide_true, decide_false, Bool.true_and, Bool.and_true, Bool.false_and, Bool.and_false, Bool.true_or, Bool.or_true, Bool.false_or, Bool.or_false, Bool.not_true, Bool.not_false, eq_self])) (j_4 _ _ _ rfl hW)
        · refine xi_iconst hx hb dX12_release_73 ?_
          refine lv_goto (tgt := 78) hx hb dX12_release_74 (by decide) ?_
          exact xi_eq (z' := bI (!decide (S.1 20 k = -1))) (bI_t (by simp only [c_3, c_7, decide_true, decide_false, Bool.true_and, Bool.and_true, Bool.false_and, Bool.and_false, Bool.true_or, Bool.or_true, Bool.false_or, Bool.or_false, Bool.not_true, Bool.not_false, eq_self])) (j_4 _ _ _ rfl hW)
      · refine xi_iconst hx hb dX12_release_61 ?_
        exact g_zret hx hb hr (Or.inl rfl) hW ⟨by rw [pRel, if_neg (by rw [c_3]; decide)], _, _, _, by rw [pRel, if_neg (by rw [c_3]; decide)]⟩ dX12_release_62 hlk
    refine lv_iload_n hx hb dX12_release_25 rfl (lv_at hl 0 rfl) ?_
    refine xi_ifb_eq (tgt := 53) hx hb dX12_release_26 (by decide) (fun c_8 => ?_) (fun c_8 => ?_)
    · refine xi_iconst hx hb dX12_release_53 ?_
      exact xi_eq (z' := bI (okR2 S k y)) (bI_f (by simp only [okR2, c_8, decide_true, decide_false, Bool.true_and, Bool.and_true, Bool.false_and, Bool.and_false, Bool.true_or, Bool.or_true, Bool.false_or, Bool.or_false, Bool.not_true, Bool.not_false, eq_self])) (j_2 _ _ _ rfl hW)
    · have hq := c_8
      simp only [okR1, okP, sIn, Bool.and_eq_true, decide_eq_true_eq] at hq
      have h80 := wf_8 hwf 0
      refine lv_aload_n hx hb dX12_release_29 rfl (lv_at hl 1 rfl) ?_
      refine mr_get K hK hW hin 18 (by decide) lM_state (v := .ref (ix 118)) rfl dX12_release_30 ?_
      refine lv_iload_n hx hb dX12_release_33 rfl (lv_at hl 2 rfl) ?_
      refine mr_iald K hK hW 18 (by decide) rfl (n := 60) rfl rfl ⟨by omega, by omega⟩ (v := S.1 18 (k)) rfl dX12_release_34 ?_
      have w_9 := wf_18 hwf (k)
      refine xi_iconst hx hb dX12_release_35 ?_
      refine xi_icmp_ne (tgt := 53) hx hb ⟨by omega, by omega⟩ ⟨by omega, by omega⟩ dX12_release_36 (by decide) (fun c_10 => ?_) (fun c_10 => ?_)
      · refine xi_iconst hx hb dX12_release_53 ?_
        exact xi_eq (z' := bI (okR2 S k y)) (bI_f (by simp only [okR2, c_8, c_10, decide_true, decide_false, Bool.true_and, Bool.and_true, Bool.false_and, Bool.and_false, Bool.true_or, Bool.or_true, Bool.false_or, Bool.or_false, Bool.not_true, Bool.not_false, eq_self])) (j_2 _ _ _ rfl hW)
      · refine lv_aload_n hx hb dX12_release_39 rfl (lv_at hl 1 rfl) ?_
        refine mr_get K hK hW hin 20 (by decide) lM_officer (v := .ref (ix 120)) rfl dX12_release_40 ?_
        refine lv_iload_n hx hb dX12_release_43 rfl (lv_at hl 2 rfl) ?_
        refine mr_iald K hK hW 20 (by decide) rfl (n := 60) rfl rfl ⟨by omega, by omega⟩ (v := S.1 20 (k)) rfl dX12_release_44 ?_
        have w_11 := wf_20 hwf (k)
        refine lv_iload_n hx hb dX12_release_45 rfl (lv_at hl 3 rfl) ?_
        refine xi_icmp_eq (tgt := 53) hx hb ⟨by omega, by omega⟩ ⟨by omega, by omega⟩ dX12_release_46 (by decide) (fun c_12 => ?_) (fun c_12 => ?_)
        · refine xi_iconst hx hb dX12_release_53 ?_
          exact xi_eq (z' := bI (okR2 S k y)) (bI_f (by simp only [okR2, c_8, c_10, c_12, decide_true, decide_false, Bool.true_and, Bool.and_true, Bool.false_and, Bool.and_false, Bool.true_or, Bool.or_true, Bool.false_or, Bool.or_false, Bool.not_true, Bool.not_false, eq_self])) (j_2 _ _ _ rfl hW)
        · refine xi_iconst hx hb dX12_release_49 ?_
          refine lv_goto (tgt := 54) hx hb dX12_release_50 (by decide) ?_
          exact xi_eq (z' := bI (okR2 S k y)) (bI_t (by simp only [okR2, c_8, c_10, c_12, decide_true, decide_false, Bool.true_and, Bool.and_true, Bool.false_and, Bool.and_false, Bool.true_or, Bool.or_true, Bool.false_or, Bool.or_false, Bool.not_true, Bool.not_false, eq_self])) (j_2 _ _ _ rfl hW)
  refine lv_aload_n hx hb dX12_release_0 rfl (lv_at hl 0 rfl) ?_
  refine lv_iload_n hx hb dX12_release_1 rfl (lv_at hl 1 rfl) ?_
  refine g_callV (i := 0) (As := [.int (iI (k))]) (rest := []) K (c_M_isPayment (k) ⟨by omega, by omega⟩ hwf) (cwV 1 hts gM_X12_isPayment rfl rfl rfl (by decide +kernel) ⟨Nat.le_of_ble_eq_true rfl, Nat.le_of_ble_eq_true rfl⟩) hK hW (mW_0 _ _ _ _ _) rfl rfl hl.1 rfl (Nat.le_of_ble_eq_true rfl) dX12_release_2 ⟨Nat.le_refl _, Nat.le_refl _⟩ (fun v_ f_ H locs hp hW => ?_)
  obtain ⟨hpv, hpe⟩ := hp
  rw [hpe] at hW
  have hpv : v_ = some (.int (iI (bI (okP S (k))))) := hpv
  subst hpv
  refine xi_ifb_eq (tgt := 21) hx hb dX12_release_5 (by decide) (fun c_13 => ?_) (fun c_13 => ?_)
  · refine xi_iconst hx hb dX12_release_21 ?_
    exact xi_eq (z' := bI (okR1 S k y)) (bI_f (by simp only [okR1, c_13, decide_true, decide_false, Bool.true_and, Bool.and_true, Bool.false_and, Bool.and_false, Bool.true_or, Bool.or_true, Bool.false_or, Bool.or_false, Bool.not_true, Bool.not_false, eq_self])) (j_1 _ _ _ rfl hW)
  · refine lv_iload_n hx hb dX12_release_8 rfl (lv_at hl 2 rfl) ?_
    refine xi_iconst hx hb dX12_release_9 ?_
    refine xi_iconst hx hb dX12_release_10 ?_
    refine g_callS (As := [.int (iI (y)), .int (iI (0)), .int (iI (3))]) (rest := []) K (c_M_in (y) (0) (3) ⟨by omega, by omega⟩ ⟨by omega, by omega⟩ ⟨by omega, by omega⟩) (va_cwS 3 hts gM_X12_in rfl rfl rfl (by decide +kernel) ⟨Nat.le_of_ble_eq_true rfl, Nat.le_of_ble_eq_true rfl⟩) hK hW rfl hl.1 rfl (Nat.le_of_ble_eq_true rfl) dX12_release_11 ⟨Nat.le_refl _, Nat.le_refl _⟩ (fun v_ f_ H locs hp hW => ?_)
    obtain ⟨hpv, hpe⟩ := hp
    rw [hpe] at hW
    subst hpv
    refine xi_ifb_eq (tgt := 21) hx hb dX12_release_14 (by decide) (fun c_14 => ?_) (fun c_14 => ?_)
    · refine xi_iconst hx hb dX12_release_21 ?_
      exact xi_eq (z' := bI (okR1 S k y)) (bI_f (by simp only [okR1, c_13, c_14, decide_true, decide_false, Bool.true_and, Bool.and_true, Bool.false_and, Bool.and_false, Bool.true_or, Bool.or_true, Bool.false_or, Bool.or_false, Bool.not_true, Bool.not_false, eq_self])) (j_1 _ _ _ rfl hW)
    · refine xi_iconst hx hb dX12_release_17 ?_
      refine lv_goto (tgt := 22) hx hb dX12_release_18 (by decide) ?_
      exact xi_eq (z' := bI (okR1 S k y)) (bI_t (by simp only [okR1, c_13, c_14, decide_true, decide_false, Bool.true_and, Bool.and_true, Bool.false_and, Bool.and_false, Bool.true_or, Bool.or_true, Bool.false_or, Bool.or_false, Bool.not_true, Bool.not_false, eq_self])) (j_1 _ _ _ rfl hW)
theorem cNF_18w {S : ST} {k v : Int} (h0 : 0 ≤ k) (h1 : k < 60) (hs : S.1 18 k ≠ 4) (hv : v ≠ 4) (f : Nat → Int → Int) (e : ∀ j, f 18 j = (pI S 18 k v).1 18 j) : suI (fun j => if f 18 j = 4 then 0 else 1) 60 = cNF S := by
  rw [← cNF_18 h0 h1 hs hv]
  unfold cNF
  exact suI_congr (fun j _ _ => by rw [e])
theorem sCom1_18 (S : ST) (b u c v nm h : Int) (rl : Bool) (d : Int) (st : Bool) (j : Int) : (sCom1 S b u c v nm h rl d st).1 18 j = (pI S 18 (S.1 8 0) 0).1 18 j := by
  unfold sCom1
  by_cases e : j = S.1 8 0
  · rw [e, pI_s, pI_s]
  · rw [pI_n _ _ _ _ (Or.inr e), pI_n _ _ _ _ (Or.inr e)]
    simp [pI, e]
theorem okS_com1 {S : ST} (ho : okS S) {b u c v nm h : Int} {rl : Bool} {d : Int} {st : Bool} (hn : S.1 8 0 < 60) (hs : S.1 18 (S.1 8 0) ≠ 4) (hb : 0 ≤ b ∧ b ≤ 5) (hu : 0 ≤ u ∧ u ≤ 5) (hc : 0 ≤ c ∧ c ≤ 2) (hv : 0 ≤ v ∧ v ≤ 1000000) (hnm : 0 ≤ nm ∧ nm ≤ 19) (hh : 0 ≤ h ∧ h ≤ 2) (hd : 0 ≤ d ∧ d ≤ 999) : okS (sCom1 S b u c v nm h rl d st) := by
  have h80 := wf_8 ho.1 0
  have hrl := bI_01 rl
  have hst := bI_01 st
  unfold sCom1
  refine okS_18 ?_ (by omega) (by omega) ?_ (by decide) (by decide)
  · exact okS_pI (okS_pI (okS_pI (okS_pI (okS_pI (okS_pI (okS_pI (okS_pI (okS_pI (okS_pI (okS_pI (okS_pI (okS_pI ho _ _ (by decide) ⟨by simp only [rLo]; omega, by simp only [rHi]; omega⟩) _ _ (by decide) ⟨by simp only [rLo]; omega, by simp only [rHi]; omega⟩) _ _ (by decide) ⟨by simp only [rLo]; omega, by simp only [rHi]; omega⟩) _ _ (by decide) ⟨by simp only [rLo]; omega, by simp only [rHi]; omega⟩) _ _ (by decide) ⟨by simp only [rLo]; omega, by simp only [rHi]; omega⟩) _ _ (by decide) ⟨by simp only [rLo]; omega, by simp only [rHi]; omega⟩) _ _ (by decide) ⟨by simp only [rLo]; omega, by simp only [rHi]; omega⟩) _ _ (by decide) ⟨by simp only [rLo]; omega, by simp only [rHi]; omega⟩) _ _ (by decide) ⟨by simp only [rLo]; omega, by simp only [rHi]; omega⟩) _ _ (by decide) ⟨by simp only [rLo]; omega, by simp only [rHi]; omega⟩) _ _ (by decide) ⟨by simp only [rLo]; omega, by simp only [rHi]; omega⟩) _ _ (by decide) ⟨by simp only [rLo]; omega, by simp only [rHi]; omega⟩) _ _ (by decide) ⟨by simp only [rLo]; omega, by simp only [rHi]; omega⟩
  · simp [pI]
    exact hs
theorem okS_come {S : ST} (ho : okS S) {b u c v nm h : Int} {rl : Bool} {d : Int} {st : Bool} (hn : S.1 8 0 < 60) (hs : S.1 18 (S.1 8 0) ≠ 4) (hb : 0 ≤ b ∧ b ≤ 5) (hu : 0 ≤ u ∧ u ≤ 5) (hc : 0 ≤ c ∧ c ≤ 2) (hv : 0 ≤ v ∧ v ≤ 1000000) (hnm : 0 ≤ nm ∧ nm ≤ 19) (hh : 0 ≤ h ∧ h ≤ 2) (hd : 0 ≤ d ∧ d ≤ 999) : okS (sCome S b u c v nm h rl d st) := by
  have h80 := wf_8 ho.1 0
  have h1 := okS_com1 ho (rl := rl) (st := st) hn hs hb hu hc hv hnm hh hd
  unfold sCome gCome
  refine okS_pI (okS_pI (okS_pI ?_ _ _ (by decide) ⟨by simp only [rLo]; omega, by simp only [rHi]; omega⟩) _ _ (by decide) ⟨by simp only [rLo]; omega, by simp only [rHi]; omega⟩) _ _ (by decide) ⟨by simp only [rLo]; omega, by simp only [rHi]; omega⟩
  split
  · exact okS_ent h1 (by omega) (by omega) (by rw [sCom1_18, pI_s]; decide)
  · exact h1
set_option maxHeartbeats 4000000 in
set_option maxRecDepth 100000 in
theorem c_M_answer {l : Launch} {D : va_G} {cy : Nat → ClassId} {B0 : Nat} {ix : Nat → Nat} {S : ST} {I : Int → Bool} {aM qM : Int → Int64} {tM : Int} {G : gF} (k : Int) (y : Bool) (h_k : rI k) (ho : okS S) (hs8 : S.1 8 0 < 60 → S.1 18 (S.1 8 0) ≠ 4) : gM l yX12_answer vX12_answer 5 117 D cy B0 [.ref (ix 100), .int (iI k), .int (iI (bI y))] (mW cy ix S (mX I aM qM tM) G) (fun r g => r = some (.int (iI (pAns S k y).2.1)) ∧ ∃ (J : Int → Bool) (a q : Int → Int64), g = mW cy ix (pAns S k y).2.2 (mX J a q (pAns S k y).1) G) 0 0 := by
  refine g_start (cc := cX12_answer) (maxL := 7) (ret := (some .int)) (by decide) rfl (Nat.le_of_ble_eq_true rfl) ?_
  intro p_ e_ s_ m_ be_ me_ co_ ls H locs K hr hlk hnm hK hW hl
  have hin : ∀ w ∈ wsX120, w ∈ vX12_answer := wsM_cls
  obtain ⟨hx, hb, hml, hown, hts⟩ := id K
  have hl : lv_has ls 7 [(0, .ref (ix 100)), (1, .int (iI (k))), (2, .int (iI (bI (y))))] := hl
  have hwf : wf S := ho.1
  have h00 := wf_0 hwf 0
  refine lv_aload_n hx hb dX12_answer_0 rfl (lv_at hl 0 rfl) ?_
  refine lv_iload_n hx hb dX12_answer_1 rfl (lv_at hl 1 rfl) ?_
  refine g_callV (i := 0) (As := [.int (iI (k))]) (rest := []) K (c_M_isPayment (k) ⟨by omega, by omega⟩ hwf) (cwV 1 hts gM_X12_isPayment rfl rfl rfl (by decide +kernel) ⟨Nat.le_of_ble_eq_true rfl, Nat.le_of_ble_eq_true rfl⟩) hK hW (mW_0 _ _ _ _ _) rfl rfl hl.1 rfl (Nat.le_of_ble_eq_true rfl) dX12_answer_2 ⟨Nat.le_refl _, Nat.le_refl _⟩ (fun v_ f_ H locs hp hW => ?_)
  obtain ⟨hpv, hpe⟩ := hp
  rw [hpe] at hW
  have hpv : v_ = some (.int (iI (bI (okP S (k))))) := hpv
  subst hpv
  refine lv_istore_n (lv' := [(3, .int (iI (bI (okP S (k))))), (0, .ref (ix 100)), (1, .int (iI (k))), (2, .int (iI (bI (y))))]) hx hb dX12_answer_5 rfl hl (by decide) rfl (fun ls hl => ?_)
  have j_1 : ∀ (zJ : Bool) (H : Heap) (locs : List Loc), zJ = (okA S k y) → gW D B0 s_ (mW cy ix S (mX (I) (aM) (qM) (tM)) G) H locs → W p_ l e_ { frames := 5, cells := 0, slots := 0, locals := 117 } s_ m_ ([.ref (ix 100), .int (iI k), .int (iI (bI y))] : List Value).toArray be_ me_ co_ H locs 0 0 (MQ be_ (gQ D B0 (fun (r : Option Value) (g : gF) => r = some (.int (iI (pAns S k y).2.1)) ∧ ∃ (J : Int → Bool) (a q : Int → Int64), g = mW cy ix (pAns S k y).2.2 (mX J a q (pAns S k y).1) G)) ([.ref (ix 100), .int (iI k), .int (iI (bI y))] : List Value).toArray s_ 0 0 (fun q : Nat => B0 ≤ q)) (F0 m_ 62 ls [.int (iI (bI (zJ)))]) := by
    intro zJ H locs hzJ hW
    subst hzJ
    refine lv_istore (lv' := [(4, .int (iI (bI (okA S k y)))), (3, .int (iI (bI (okP S (k))))), (0, .ref (ix 100)), (1, .int (iI (k))), (2, .int (iI (bI (y))))]) hx hb dX12_answer_62 hl (by decide) rfl (fun ls hl => ?_)
    refine lv_aload_n hx hb dX12_answer_64 rfl (lv_at hl 2 rfl) ?_
    refine lv_iload_n hx hb dX12_answer_65 rfl (lv_at hl 1 rfl) ?_
    refine lv_iload hx hb dX12_answer_66 (lv_at hl 0 rfl) ?_
    refine xi_iconst hx hb dX12_answer_68 ?_
    refine g_callV (i := 0) (As := [.int (iI (bI (okP S (k)))), .int (iI (bI (okA S k y))), .int (iI (1))]) (rest := []) K (c_M_goes (okP S (k)) (okA S k y) (true)) (cwV 3 hts gM_X12_goes rfl rfl rfl (by decide +kernel) ⟨Nat.le_of_ble_eq_true rfl, Nat.le_of_ble_eq_true rfl⟩) hK hW (mW_0 _ _ _ _ _) rfl rfl hl.1 rfl (Nat.le_of_ble_eq_true rfl) dX12_answer_69 ⟨Nat.le_refl _, Nat.le_refl _⟩ (fun v_ f_ H locs hp hW => ?_)
    obtain ⟨hpv, hpe⟩ := hp
    rw [hpe] at hW
    subst hpv
    refine xi_ifb_ne (tgt := 77) hx hb dX12_answer_72 (by decide) (fun c_2 => ?_) (fun c_2 => ?_)
    · have hg := c_2
      simp only [okA, okP, sIn, Bool.and_eq_true, Bool.or_eq_true, decide_eq_true_eq, Bool.not_eq_true', decide_eq_false_iff_not, and_true, true_and] at hg
      have h80 := wf_8 hwf 0
      refine lv_aload_n hx hb dX12_answer_77 rfl (lv_at hl 2 rfl) ?_
      refine mr_get K hK hW hin 24 (by decide) lM_isAnswered (v := .ref (ix 124)) rfl dX12_answer_78 ?_
      refine lv_iload_n hx hb dX12_answer_81 rfl (lv_at hl 3 rfl) ?_
      refine xi_iconst hx hb dX12_answer_82 ?_
      refine mr_zast K hK hW 24 (by decide) rfl (by decide) (n := 60) rfl rfl ⟨by omega, by omega⟩ (by omega) dX12_answer_83 (fun H locs hW => ?_)
      refine lv_iload_n hx hb dX12_answer_84 rfl (lv_at hl 4 rfl) ?_
      refine xi_ifb_ne (tgt := 90) hx hb dX12_answer_85 (by decide) (fun c_3 => ?_) (fun c_3 => ?_)
      · have v9 := wf_9 hwf k
        have v10 := wf_10 hwf k
        have v11 := wf_11 hwf k
        have v12 := wf_12 hwf k
        have h24 : wf (pI S 24 k 1) := wf_pI hwf k 1 ⟨by simp only [rLo]; omega, by simp only [rHi]; omega⟩
        have hn60 : S.1 8 0 < 60 := by have h5 := hg; rw [c_3] at h5; simp only [Bool.true_eq_false, false_or] at h5; omega
        refine lv_aload_n hx hb dX12_answer_90 rfl (lv_at hl 2 rfl) ?_
        refine lv_aload_n hx hb dX12_answer_91 rfl (lv_at hl 2 rfl) ?_
        refine mr_get K hK hW hin 10 (by decide) lM_to (v := .ref (ix 110)) rfl dX12_answer_92 ?_
        refine lv_iload_n hx hb dX12_answer_95 rfl (lv_at hl 3 rfl) ?_
        refine mr_iald K hK hW 10 (by decide) rfl (n := 60) rfl rfl ⟨by omega, by omega⟩ (v := S.1 10 (k)) rfl dX12_answer_96 ?_
        have w_4 := wf_10 hwf (k)
        refine lv_aload_n hx hb dX12_answer_97 rfl (lv_at hl 2 rfl) ?_
        refine mr_get K hK hW hin 9 (by decide) lM_from (v := .ref (ix 109)) rfl dX12_answer_98 ?_
        refine lv_iload_n hx hb dX12_answer_101 rfl (lv_at hl 3 rfl) ?_
        refine mr_iald K hK hW 9 (by decide) rfl (n := 60) rfl rfl ⟨by omega, by omega⟩ (v := S.1 9 (k)) rfl dX12_answer_102 ?_
        have w_5 := wf_9 hwf (k)
        refine lv_aload_n hx hb dX12_answer_103 rfl (lv_at hl 2 rfl) ?_
        refine mr_get K hK hW hin 11 (by decide) lM_currency (v := .ref (ix 111)) rfl dX12_answer_104 ?_
        refine lv_iload_n hx hb dX12_answer_107 rfl (lv_at hl 3 rfl) ?_
        refine mr_iald K hK hW 11 (by decide) rfl (n := 60) rfl rfl ⟨by omega, by omega⟩ (v := S.1 11 (k)) rfl dX12_answer_108 ?_
        have w_6 := wf_11 hwf (k)
        refine lv_aload_n hx hb dX12_answer_109 rfl (lv_at hl 2 rfl) ?_
        refine mr_get K hK hW hin 12 (by decide) lM_amount (v := .ref (ix 112)) rfl dX12_answer_110 ?_
        refine lv_iload_n hx hb dX12_answer_113 rfl (lv_at hl 3 rfl) ?_
        refine mr_iald K hK hW 12 (by decide) rfl (n := 60) rfl rfl ⟨by omega, by omega⟩ (v := S.1 12 (k)) rfl dX12_answer_114 ?_
        have w_7 := wf_12 hwf (k)
        refine xi_iconst hx hb dX12_answer_115 ?_
        refine xi_iconst hx hb dX12_answer_116 ?_
        refine xi_iconst hx hb dX12_answer_117 ?_
        refine lv_aload_n hx hb dX12_answer_118 rfl (lv_at hl 2 rfl) ?_
        refine mr_get K hK hW hin 0 (by decide) lM_today (v := .int (iI (S.1 0 (0)))) rfl dX12_answer_119 ?_
        have w_w_8 := wf_0 hwf 0
        refine xi_iconst hx hb dX12_answer_122 ?_
        refine g_callV (i := 0) (As := [.int (iI (S.1 10 (k))), .int (iI (S.1 9 (k))), .int (iI (S.1 11 (k))), .int (iI (S.1 12 (k))), .int (iI (0)), .int (iI (2)), .int (iI (1)), .int (iI (S.1 0 (0))), .int (iI (1))]) (rest := []) K (c_M_comes (S := pI S 24 k 1) (S.1 10 (k)) (S.1 9 (k)) (S.1 11 (k)) (S.1 12 (k)) (0) (2) (true) (S.1 0 (0)) (true) ⟨by omega, by omega⟩ ⟨by omega, by omega⟩ ⟨by omega, by omega⟩ ⟨by omega, by omega⟩ ⟨by omega, by omega⟩ ⟨by omega, by omega⟩ ⟨by omega, by omega⟩ hn60 (wf_pI (f := 24) hwf (k) (1) (by simp only [rLo, rHi]; omega))) (cwV 9 hts gM_X12_comes rfl rfl rfl (by decide +kernel) ⟨Nat.le_of_ble_eq_true rfl, Nat.le_of_ble_eq_true rfl⟩) hK hW (mW_0 _ _ _ _ _) rfl rfl hl.1 rfl (Nat.le_of_ble_eq_true rfl) dX12_answer_123 ⟨Nat.le_refl _, Nat.le_refl _⟩ (fun v_ f_ H locs hp hW => ?_)
        obtain ⟨hpv, hpe⟩ := hp
        rw [hpe] at hW
        have hpv : v_ = some (.int (iI ((S.1 8 0)))) := hpv
        subst hpv
        refine lv_istore (lv' := [(5, .int (iI ((S.1 8 0)))), (4, .int (iI (bI (okA S k y)))), (3, .int (iI (bI (okP S (k))))), (0, .ref (ix 100)), (1, .int (iI (k))), (2, .int (iI (bI (y))))]) hx hb dX12_answer_126 hl (by decide) rfl (fun ls hl => ?_)
        refine lv_aload_n hx hb dX12_answer_128 rfl (lv_at hl 3 rfl) ?_
        refine g_callV (i := 0) (As := []) (rest := []) K (c_M_runs (okS_come (okS_pI ho (f := 24) k 1 (by decide) ⟨by simp only [rLo]; omega, by simp only [rHi]; omega⟩) (by rw [pI_f _ _ _ (show (8 : Nat) ≠ 24 by decide)]; omega) (by rw [pI_f _ _ _ (show (8 : Nat) ≠ 24 by decide), pI_f _ _ _ (show (18 : Nat) ≠ 24 by decide)]; exact hs8 hn60) v10 v9 v11 v12 (by decide) (by decide) ⟨by omega, by omega⟩)) (cwV 0 hts gM_X12_runs rfl rfl rfl (by decide +kernel) ⟨Nat.le_of_ble_eq_true rfl, Nat.le_of_ble_eq_true rfl⟩) hK hW (mW_0 _ _ _ _ _) rfl rfl hl.1 rfl (Nat.le_of_ble_eq_true rfl) dX12_answer_129 ⟨Nat.le_refl _, Nat.le_refl _⟩ (fun v_ f_ H locs hp hW => ?_)
        obtain ⟨hpv, J, a, q, hpe⟩ := hp
        rw [hpe] at hW
        subst hpv
        refine lv_istore (lv' := [(6, .int (iI ((sRuns (anT S k)).1))), (5, .int (iI ((S.1 8 0)))), (4, .int (iI (bI (okA S k y)))), (3, .int (iI (bI (okP S (k))))), (0, .ref (ix 100)), (1, .int (iI (k))), (2, .int (iI (bI (y))))]) hx hb dX12_answer_132 hl (by decide) rfl (fun ls hl => ?_)
        refine lv_iload hx hb dX12_answer_134 (lv_at hl 1 rfl) ?_
        exact g_iret hx hb hr hW ⟨by rw [pAns, if_pos c_2, if_neg (by rw [c_3]; decide)], _, _, _, by rw [pAns, if_pos c_2, if_neg (by rw [c_3]; decide)]; rfl⟩ dX12_answer_136 hlk
      · refine xi_iconst hx hb dX12_answer_88 ?_
        exact g_iret hx hb hr hW ⟨by rw [pAns, if_pos c_2, if_pos c_3], _, _, _, by rw [pAns, if_pos c_2, if_pos c_3]⟩ dX12_answer_89 hlk
    · refine xi_iconst hx hb dX12_answer_75 ?_
      exact g_iret hx hb hr hW ⟨by rw [pAns, if_neg (by rw [c_2]; decide)], _, _, _, by rw [pAns, if_neg (by rw [c_2]; decide)]⟩ dX12_answer_76 hlk
  refine lv_iload_n hx hb dX12_answer_6 rfl (lv_at hl 0 rfl) ?_
  refine xi_ifb_eq (tgt := 61) hx hb dX12_answer_7 (by decide) (fun c_9 => ?_) (fun c_9 => ?_)
  · refine xi_iconst hx hb dX12_answer_61 ?_
    exact xi_eq (z' := bI (okA S k y)) (bI_f (by simp only [okA, c_9, decide_true, decide_false, Bool.true_and, Bool.and_true, Bool.false_and, Bool.and_false, Bool.true_or, Bool.or_true, Bool.false_or, Bool.or_false, Bool.not_true, Bool.not_false, eq_self])) (j_1 _ _ _ rfl hW)
  · have hq := c_9
    simp only [okP, sIn, Bool.and_eq_true, decide_eq_true_eq] at hq
    have h80 := wf_8 hwf 0
    refine lv_aload_n hx hb dX12_answer_10 rfl (lv_at hl 1 rfl) ?_
    refine mr_get K hK hW hin 23 (by decide) lM_recalledOn (v := .ref (ix 123)) rfl dX12_answer_11 ?_
    refine lv_iload_n hx hb dX12_answer_14 rfl (lv_at hl 2 rfl) ?_
    refine mr_iald K hK hW 23 (by decide) rfl (n := 60) rfl rfl ⟨by omega, by omega⟩ (v := S.1 23 (k)) rfl dX12_answer_15 ?_
    have w_10 := wf_23 hwf (k)
    refine xi_iconst hx hb dX12_answer_16 ?_
    refine xi_icmp_eq (tgt := 61) hx hb ⟨by omega, by omega⟩ ⟨by omega, by omega⟩ dX12_answer_17 (by decide) (fun c_11 => ?_) (fun c_11 => ?_)
    · refine xi_iconst hx hb dX12_answer_61 ?_
      exact xi_eq (z' := bI (okA S k y)) (bI_f (by simp only [okA, c_9, c_11, decide_true, decide_false, Bool.true_and, Bool.and_true, Bool.false_and, Bool.and_false, Bool.true_or, Bool.or_true, Bool.false_or, Bool.or_false, Bool.not_true, Bool.not_false, eq_self])) (j_1 _ _ _ rfl hW)
    · refine lv_aload_n hx hb dX12_answer_20 rfl (lv_at hl 1 rfl) ?_
      refine mr_get K hK hW hin 24 (by decide) lM_isAnswered (v := .ref (ix 124)) rfl dX12_answer_21 ?_
      refine lv_iload_n hx hb dX12_answer_24 rfl (lv_at hl 2 rfl) ?_
      refine mr_zald K hK hW 24 (by decide) rfl (n := 60) rfl rfl ⟨by omega, by omega⟩ (v := S.1 24 (k)) rfl dX12_answer_25 ?_
      have w_12 := wf_24 hwf (k)
      refine xi_if_ne (tgt := 61) hx hb ⟨by omega, by omega⟩ dX12_answer_26 (by decide) (fun c_13 => ?_) (fun c_13 => ?_)
      · refine xi_iconst hx hb dX12_answer_61 ?_
        exact xi_eq (z' := bI (okA S k y)) (bI_f (by simp only [okA, c_9, c_11, c_13, decide_true, decide_false, Bool.true_and, Bool.and_true, Bool.false_and, Bool.and_false, Bool.true_or, Bool.or_true, Bool.false_or, Bool.or_false, Bool.not_true, Bool.not_false, eq_self])) (j_1 _ _ _ rfl hW)
      · refine lv_aload_n hx hb dX12_answer_29 rfl (lv_at hl 1 rfl) ?_
        refine mr_get K hK hW hin 0 (by decide) lM_today (v := .int (iI (S.1 0 (0)))) rfl dX12_answer_30 ?_
        have w_w_14 := wf_0 hwf 0
        refine lv_aload_n hx hb dX12_answer_33 rfl (lv_at hl 1 rfl) ?_
        refine mr_get K hK hW hin 23 (by decide) lM_recalledOn (v := .ref (ix 123)) rfl dX12_answer_34 ?_
        refine lv_iload_n hx hb dX12_answer_37 rfl (lv_at hl 2 rfl) ?_
        refine mr_iald K hK hW 23 (by decide) rfl (n := 60) rfl rfl ⟨by omega, by omega⟩ (v := S.1 23 (k)) rfl dX12_answer_38 ?_
        have w_15 := wf_23 hwf (k)
        refine xi_iconst hx hb dX12_answer_39 ?_
        refine xi_iadd hx hb dX12_answer_40 ?_
        refine xi_icmp_gt (tgt := 61) hx hb ⟨by omega, by omega⟩ ⟨by omega, by omega⟩ dX12_answer_41 (by decide) (fun c_16 => ?_) (fun c_16 => ?_)
        · refine xi_iconst hx hb dX12_answer_61 ?_
          exact xi_eq (z' := bI (okA S k y)) (bI_f (by simp only [okA, c_9, c_11, c_13, c_16, Int.not_le.mpr c_16, decide_true, decide_false, Bool.true_and, Bool.and_true, Bool.false_and, Bool.and_false, Bool.true_or, Bool.or_true, Bool.false_or, Bool.or_false, Bool.not_true, Bool.not_false, eq_self])) (j_1 _ _ _ rfl hW)
        · refine lv_iload_n hx hb dX12_answer_44 rfl (lv_at hl 3 rfl) ?_
          refine xi_ifb_eq (tgt := 57) hx hb dX12_answer_45 (by decide) (fun c_17 => ?_) (fun c_17 => ?_)
          · refine xi_iconst hx hb dX12_answer_57 ?_
            refine lv_goto (tgt := 62) hx hb dX12_answer_58 (by decide) ?_
            exact xi_eq (z' := bI (okA S k y)) (bI_t (by simp only [okA, c_9, c_11, c_13, c_16, Int.not_lt.mpr c_16, c_17, decide_true, decide_false, Bool.true_and, Bool.and_true, Bool.false_and, Bool.and_false, Bool.true_or, Bool.or_true, Bool.false_or, Bool.or_false, Bool.not_true, Bool.not_false, eq_self])) (j_1 _ _ _ rfl hW)
          · refine lv_aload_n hx hb dX12_answer_48 rfl (lv_at hl 1 rfl) ?_
            refine mr_get K hK hW hin 8 (by decide) lM_payments (v := .int (iI (S.1 8 (0)))) rfl dX12_answer_49 ?_
            have w_w_18 := wf_8 hwf 0
            refine xi_bipush hx hb dX12_answer_52 (by decide) ?_
            refine xi_icmp_ge (tgt := 61) hx hb ⟨by omega, by omega⟩ ⟨by omega, by omega⟩ dX12_answer_54 (by decide) (fun c_19 => ?_) (fun c_19 => ?_)
            · refine xi_iconst hx hb dX12_answer_61 ?_
              exact xi_eq (z' := bI (okA S k y)) (bI_f (by simp only [okA, c_9, c_11, c_13, c_16, Int.not_lt.mpr c_16, c_17, c_19, Int.not_lt.mpr c_19, decide_true, decide_false, Bool.true_and, Bool.and_true, Bool.false_and, Bool.and_false, Bool.true_or, Bool.or_true, Bool.false_or, Bool.or_false, Bool.not_true, Bool.not_false, eq_self])) (j_1 _ _ _ rfl hW)
            · refine xi_iconst hx hb dX12_answer_57 ?_
              refine lv_goto (tgt := 62) hx hb dX12_answer_58 (by decide) ?_
              exact xi_eq (z' := bI (okA S k y)) (bI_t (by simp only [okA, c_9, c_11, c_13, c_16, Int.not_lt.mpr c_16, c_17, c_19, Int.not_le.mpr c_19, decide_true, decide_false, Bool.true_and, Bool.and_true, Bool.false_and, Bool.and_false, Bool.true_or, Bool.or_true, Bool.false_or, Bool.or_false, Bool.not_true, Bool.not_false, eq_self])) (j_1 _ _ _ rfl hW)
