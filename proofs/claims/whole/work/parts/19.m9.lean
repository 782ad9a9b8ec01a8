theorem aL_mem {S : ST} {b k : Int} (hw : wf S) : ∀ n : Nat, k ∈ aL S b n → 0 ≤ k ∧ k ≤ 59
  | 0, h => by simp [aL] at h
  | n + 1, h => by
    unfold aL at h
    have h28 := wf_28 hw n
    split at h
    · rcases List.mem_append.mp h with q | q
      · exact aL_mem hw n q
      · simp at q; rw [q]; exact h28
    · exact aL_mem hw n (by simpa using h)
theorem aAt_r {S : ST} (hw : wf S) (b p : Int) : -1 ≤ aAt S b p ∧ aAt S b p ≤ 59 := by
  unfold aAt
  generalize hz : (aL S b (S.1 27 0).toNat).getD p.toNat (-1) = z
  rw [List.getD_eq_getElem?_getD] at hz
  cases hg : (aL S b (S.1 27 0).toNat)[p.toNat]? with
  | none => rw [hg] at hz; simp at hz; omega
  | some w =>
    rw [hg] at hz; simp at hz; rw [← hz]
    have := aL_mem hw _ (List.mem_of_getElem? hg)
    omega
theorem adZ_r {S : ST} (hw : wf S) (b : Int) : -1 ≤ adZ S b ∧ adZ S b ≤ 59 := by
  unfold adZ
  split
  · exact aAt_r hw _ _
  · decide
set_option maxHeartbeats 4000000 in
set_option maxRecDepth 100000 in
theorem c_M_advice {l : Launch} {D : va_G} {cy : Nat → ClassId} {B0 : Nat} {ix : Nat → Nat} {S : ST} {I : Int → Bool} {aM qM : Int → Int64} {tM : Int} {G : gF} (b : Int) (h_b : rI b) (ho : okS S)  : gM l yX12_advice vX12_advice 2 42 D cy B0 [.ref (ix 100), .int (iI b)] (mW cy ix S (mX I aM qM tM) G) (fun r g => r = some (.int (iI (pAdv S b).2.1)) ∧ ∃ (J : Int → Bool) (a q : Int → Int64), g = mW cy ix (pAdv S b).2.2 (mX J a q (pAdv S b).1) G) 0 0 := by
  refine g_start (cc := cX12_advice) (maxL := 3) (ret := (some .int)) (by decide) rfl (Nat.le_of_ble_eq_true rfl) ?_
  intro p_ e_ s_ m_ be_ me_ co_ ls H locs K hr hlk hnm hK hW hl
  have hin : ∀ w ∈ wsX120, w ∈ vX12_advice := wsM_cls
  obtain ⟨hx, hb, hml, hown, hts⟩ := id K
  have hl : lv_has ls 3 [(0, .ref (ix 100)), (1, .int (iI (b)))] := hl
  have hwf : wf S := ho.1
  refine lv_aload_n hx hb dX12_advice_0 rfl (lv_at hl 0 rfl) ?_
  refine lv_iload_n hx hb dX12_advice_1 rfl (lv_at hl 1 rfl) ?_
  refine g_callS (As := [.int (iI (b))]) (rest := [.ref (ix 100)]) K (c_M_isBank (b) ⟨by omega, by omega⟩) (va_cwS 1 hts gM_X12_isBank rfl rfl rfl (by decide +kernel) ⟨Nat.le_of_ble_eq_true rfl, Nat.le_of_ble_eq_true rfl⟩) hK hW rfl hl.1 rfl (Nat.le_of_ble_eq_true rfl) dX12_advice_2 ⟨Nat.le_refl _, Nat.le_refl _⟩ (fun v_ f_ H locs hp hW => ?_)
  obtain ⟨hpv, hpe⟩ := hp
  rw [hpe] at hW
  subst hpv
  refine xi_iconst hx hb dX12_advice_5 ?_
  refine xi_iconst hx hb dX12_advice_6 ?_
  refine g_callV (i := 0) (As := [.int (iI (bI (sIn (b) 0 5))), .int (iI (1)), .int (iI (1))]) (rest := []) K (c_M_goes (sIn (b) 0 5) (true) (true)) (cwV 3 hts gM_X12_goes rfl rfl rfl (by decide +kernel) ⟨Nat.le_of_ble_eq_true rfl, Nat.le_of_ble_eq_true rfl⟩) hK hW (mW_0 _ _ _ _ _) rfl rfl hl.1 rfl (Nat.le_of_ble_eq_true rfl) dX12_advice_7 ⟨Nat.le_refl _, Nat.le_refl _⟩ (fun v_ f_ H locs hp hW => ?_)
  obtain ⟨hpv, hpe⟩ := hp
  rw [hpe] at hW
  subst hpv
  refine xi_ifb_ne (tgt := 15) hx hb dX12_advice_10 (by decide) (fun c_1 => ?_) (fun c_1 => ?_)
  · have hg := c_1
    simp only [sIn, Bool.and_eq_true, Bool.or_eq_true, decide_eq_true_eq, Bool.not_eq_true', decide_eq_false_iff_not, and_true, true_and] at hg
    have h80 := wf_8 hwf 0
    have j_2 : ∀ (zJ : Int) (H : Heap) (locs : List Loc), zJ = (adZ S b) → gW D B0 s_ (mW cy ix S (mX (I) (aM) (qM) (sGo (sIn (b) 0 5) true true)) G) H locs → W p_ l e_ { frames := 2, cells := 0, slots := 0, locals := 42 } s_ m_ ([.ref (ix 100), .int (iI b)] : List Value).toArray be_ me_ co_ H locs 0 0 (MQ be_ (gQ D B0 (fun (r : Option Value) (g : gF) => r = some (.int (iI (pAdv S b).2.1)) ∧ ∃ (J : Int → Bool) (a q : Int → Int64), g = mW cy ix (pAdv S b).2.2 (mX J a q (pAdv S b).1) G)) ([.ref (ix 100), .int (iI b)] : List Value).toArray s_ 0 0 (fun q : Nat => B0 ≤ q)) (F0 m_ 39 ls [.int (iI (zJ))]) := by
      intro zJ H locs hzJ hW
      subst hzJ
      refine lv_istore_n (lv' := [(2, .int (iI (adZ S b))), (0, .ref (ix 100)), (1, .int (iI (b)))]) hx hb dX12_advice_39 rfl hl (by decide) rfl (fun ls hl => ?_)
      have hzr := adZ_r hwf b
      have v29 := wf_29 hwf b
      refine lv_aload_n hx hb dX12_advice_40 rfl (lv_at hl 1 rfl) ?_
      refine mr_get K hK hW hin 29 (by decide) lM_taken (v := .ref (ix 129)) rfl dX12_advice_41 ?_
      refine lv_iload_n hx hb dX12_advice_44 rfl (lv_at hl 2 rfl) ?_
      refine lv_dup2_11 hx hb dX12_advice_45 rfl rfl ?_
      refine mr_iald K hK hW 29 (by decide) rfl (n := 6) rfl rfl ⟨by omega, by omega⟩ (v := S.1 29 (b)) rfl dX12_advice_46 ?_
      have w_3 := wf_29 hwf (b)
      have j_4 : ∀ (zJ : Int) (H : Heap) (locs : List Loc), zJ = ((if adZ S b = -1 then 0 else 1 : Int)) → gW D B0 s_ (mW cy ix S (mX (I) (aM) (qM) (sGo (sIn (b) 0 5) true true)) G) H locs → W p_ l e_ { frames := 2, cells := 0, slots := 0, locals := 42 } s_ m_ ([.ref (ix 100), .int (iI b)] : List Value).toArray be_ me_ co_ H locs 0 0 (MQ be_ (gQ D B0 (fun (r : Option Value) (g : gF) => r = some (.int (iI (pAdv S b).2.1)) ∧ ∃ (J : Int → Bool) (a q : Int → Int64), g = mW cy ix (pAdv S b).2.2 (mX J a q (pAdv S b).1) G)) ([.ref (ix 100), .int (iI b)] : List Value).toArray s_ 0 0 (fun q : Nat => B0 ≤ q)) (F0 m_ 57 ls [.int (iI (zJ)), .int (iI (S.1 29 (b))), .int (iI (b)), .ref (ix 129)]) := by
        intro zJ H locs hzJ hW
        subst hzJ
        refine xi_iadd hx hb dX12_advice_57 ?_
        refine xi_eq (z' := adT S b) rfl ?_
        have hTr : 0 ≤ adT S b ∧ adT S b ≤ 61 := by unfold adT; split <;> omega
        refine mr_iast K hK hW 29 (by decide) rfl (n := 6) rfl rfl ⟨by omega, by omega⟩ dX12_advice_58 (fun H locs hW => ?_)
        refine lv_aload_n hx hb dX12_advice_59 rfl (lv_at hl 1 rfl) ?_
        refine mr_get K hK hW hin 30 (by decide) lM_most (v := .ref (ix 130)) rfl dX12_advice_60 ?_
        refine lv_iload_n hx hb dX12_advice_63 rfl (lv_at hl 2 rfl) ?_
        have j_5 : ∀ (zJ : Int) (H : Heap) (locs : List Loc), zJ = (adM S b) → gW D B0 s_ (mW cy ix (pI S 29 (b) (adT S b)) (mX (I) (aM) (qM) (sGo (sIn (b) 0 5) true true)) G) H locs → W p_ l e_ { frames := 2, cells := 0, slots := 0, locals := 42 } s_ m_ ([.ref (ix 100), .int (iI b)] : List Value).toArray be_ me_ co_ H locs 0 0 (MQ be_ (gQ D B0 (fun (r : Option Value) (g : gF) => r = some (.int (iI (pAdv S b).2.1)) ∧ ∃ (J : Int → Bool) (a q : Int → Int64), g = mW cy ix (pAdv S b).2.2 (mX J a q (pAdv S b).1) G)) ([.ref (ix 100), .int (iI b)] : List Value).toArray s_ 0 0 (fun q : Nat => B0 ≤ q)) (F0 m_ 94 ls [.int (iI (zJ)), .int (iI (b)), .ref (ix 130)]) := by
          intro zJ H locs hzJ hW
          subst hzJ
          refine mr_iast K hK hW 30 (by decide) rfl (n := 6) rfl rfl ⟨by omega, by omega⟩ dX12_advice_94 (fun H locs hW => ?_)
          refine lv_iload_n hx hb dX12_advice_95 rfl (lv_at hl 0 rfl) ?_
          exact g_iret hx hb hr hW ⟨by rw [pAdv, if_pos c_1], _, _, _, by rw [pAdv, if_pos c_1]⟩ dX12_advice_96 hlk
        refine lv_aload_n hx hb dX12_advice_64 rfl (lv_at hl 1 rfl) ?_
        refine mr_get K hK hW hin 29 (by decide) lM_taken (v := .ref (ix 129)) rfl dX12_advice_65 ?_
        refine lv_iload_n hx hb dX12_advice_68 rfl (lv_at hl 2 rfl) ?_
        refine mr_iald K hK hW 29 (by decide) rfl (n := 6) rfl rfl ⟨by omega, by omega⟩ (v := adT S b) (by simp [mI, mL, pI, pL]) dX12_advice_69 ?_
        refine lv_aload_n hx hb dX12_advice_70 rfl (lv_at hl 1 rfl) ?_
        refine mr_get K hK hW hin 30 (by decide) lM_most (v := .ref (ix 130)) rfl dX12_advice_71 ?_
        refine lv_iload_n hx hb dX12_advice_74 rfl (lv_at hl 2 rfl) ?_
        refine mr_iald K hK hW 30 (by decide) rfl (n := 6) rfl rfl ⟨by omega, by omega⟩ (v := S.1 30 (b)) rfl dX12_advice_75 ?_
        have w_6 := wf_30 hwf (b)
        refine xi_icmp_le (tgt := 88) hx hb ⟨by omega, by omega⟩ ⟨by omega, by omega⟩ dX12_advice_76 (by decide) (fun c_7 => ?_) (fun c_7 => ?_)
        · refine lv_aload_n hx hb dX12_advice_88 rfl (lv_at hl 1 rfl) ?_
          refine mr_get K hK hW hin 30 (by decide) lM_most (v := .ref (ix 130)) rfl dX12_advice_89 ?_
          refine lv_iload_n hx hb dX12_advice_92 rfl (lv_at hl 2 rfl) ?_
          refine mr_iald K hK hW 30 (by decide) rfl (n := 6) rfl rfl ⟨by omega, by omega⟩ (v := S.1 30 (b)) rfl dX12_advice_93 ?_
          have w_8 := wf_30 hwf (b)
          exact xi_eq (z' := adM S b) (by simp only [adM, c_1, c_7, Int.not_lt.mpr c_7, decide_true, decide_false, Bool.true_and, Bool.and_true, Bool.false_and, Bool.and_false, Bool.true_or, Bool.or_true, Bool.false_or, Bool.or_false, Bool.not_true, Bool.not_false, eq_self, if_true, if_false, ite_true, ite_false, Bool.false_eq_true, reduceCtorEq, not_false_eq_true]) (j_5 _ _ _ rfl hW)
        · refine lv_aload_n hx hb dX12_advice_79 rfl (lv_at hl 1 rfl) ?_
          refine mr_get K hK hW hin 29 (by decide) lM_taken (v := .ref (ix 129)) rfl dX12_advice_80 ?_
          refine lv_iload_n hx hb dX12_advice_83 rfl (lv_at hl 2 rfl) ?_
          refine mr_iald K hK hW 29 (by decide) rfl (n := 6) rfl rfl ⟨by omega, by omega⟩ (v := adT S b) (by simp [mI, mL, pI, pL]) dX12_advice_84 ?_
          refine lv_goto (tgt := 94) hx hb dX12_advice_85 (by decide) ?_
          exact xi_eq (z' := adM S b) (by simp only [adM, c_1, c_7, Int.not_le.mpr c_7, decide_true, decide_false, Bool.true_and, Bool.and_true, Bool.false_and, Bool.and_false, Bool.true_or, Bool.or_true, Bool.false_or, Bool.or_false, Bool.not_true, Bool.not_false, eq_self, if_true, if_false, ite_true, ite_false, Bool.false_eq_true, reduceCtorEq, not_false_eq_true]) (j_5 _ _ _ rfl hW)
      refine lv_iload_n hx hb dX12_advice_47 rfl (lv_at hl 0 rfl) ?_
      refine xi_iconst hx hb dX12_advice_48 ?_
      refine xi_icmp_ne (tgt := 56) hx hb ⟨by omega, by omega⟩ ⟨by omega, by omega⟩ dX12_advice_49 (by decide) (fun c_9 => ?_) (fun c_9 => ?_)
      · refine xi_iconst hx hb dX12_advice_56 ?_
        exact xi_eq (z' := (if adZ S b = -1 then 0 else 1 : Int)) (by simp only [c_1, c_9, decide_true, decide_false, Bool.true_and, Bool.and_true, Bool.false_and, Bool.and_false, Bool.true_or, Bool.or_true, Bool.false_or, Bool.or_false, Bool.not_true, Bool.not_false, eq_self, if_true, if_false, ite_true, ite_false, Bool.false_eq_true, reduceCtorEq, not_false_eq_true]) (j_4 _ _ _ rfl hW)
      · refine xi_iconst hx hb dX12_advice_52 ?_
        refine lv_goto (tgt := 57) hx hb dX12_advice_53 (by decide) ?_
        exact xi_eq (z' := (if adZ S b = -1 then 0 else 1 : Int)) (by simp only [c_1, c_9, decide_true, decide_false, Bool.true_and, Bool.and_true, Bool.false_and, Bool.and_false, Bool.true_or, Bool.or_true, Bool.false_or, Bool.or_false, Bool.not_true, Bool.not_false, eq_self, if_true, if_false, ite_true, ite_false, Bool.false_eq_true, reduceCtorEq, not_false_eq_true]) (j_4 _ _ _ rfl hW)
    refine lv_aload_n hx hb dX12_advice_15 rfl (lv_at hl 0 rfl) ?_
    refine mr_get K hK hW hin 5 (by decide) lM_isOut (v := .ref (ix 105)) rfl dX12_advice_16 ?_
    refine lv_iload_n hx hb dX12_advice_19 rfl (lv_at hl 1 rfl) ?_
    refine mr_zald K hK hW 5 (by decide) rfl (n := 6) rfl rfl ⟨by omega, by omega⟩ (v := S.1 5 (b)) rfl dX12_advice_20 ?_
    have w_10 := wf_5 hwf (b)
    refine xi_if_eq (tgt := 28) hx hb ⟨by omega, by omega⟩ dX12_advice_21 (by decide) (fun c_11 => ?_) (fun c_11 => ?_)
    · refine lv_aload_n hx hb dX12_advice_28 rfl (lv_at hl 0 rfl) ?_
      refine lv_iload_n hx hb dX12_advice_29 rfl (lv_at hl 1 rfl) ?_
      refine lv_aload_n hx hb dX12_advice_30 rfl (lv_at hl 0 rfl) ?_
      refine mr_get K hK hW hin 29 (by decide) lM_taken (v := .ref (ix 129)) rfl dX12_advice_31 ?_
      refine lv_iload_n hx hb dX12_advice_34 rfl (lv_at hl 1 rfl) ?_
      refine mr_iald K hK hW 29 (by decide) rfl (n := 6) rfl rfl ⟨by omega, by omega⟩ (v := S.1 29 (b)) rfl dX12_advice_35 ?_
      have w_12 := wf_29 hwf (b)
      refine g_callV (i := 0) (As := [.int (iI (b)), .int (iI (S.1 29 (b)))]) (rest := []) K (c_M_adviceAt (b) (S.1 29 (b)) ⟨by omega, by omega⟩ ⟨by omega, by omega⟩ hwf) (cwV 2 hts gM_X12_adviceAt rfl rfl rfl (by decide +kernel) ⟨Nat.le_of_ble_eq_true rfl, Nat.le_of_ble_eq_true rfl⟩) hK hW (mW_0 _ _ _ _ _) rfl rfl hl.1 rfl (Nat.le_of_ble_eq_true rfl) dX12_advice_36 ⟨Nat.le_refl _, Nat.le_refl _⟩ (fun v_ f_ H locs hp hW => ?_)
      obtain ⟨hpv, hpe⟩ := hp
      rw [hpe] at hW
      have hpv : v_ = some (.int (iI (aAt S (b) (S.1 29 (b))))) := hpv
      subst hpv
      exact xi_eq (z' := adZ S b) (by rw [adZ, if_pos c_11]) (j_2 _ _ _ rfl hW)
    · refine xi_iconst hx hb dX12_advice_24 ?_
      refine lv_goto (tgt := 39) hx hb dX12_advice_25 (by decide) ?_
      exact xi_eq (z' := adZ S b) (by rw [adZ, if_neg c_11]) (j_2 _ _ _ rfl hW)
  · refine xi_iconst hx hb dX12_advice_13 ?_
    exact g_iret hx hb hr hW ⟨by rw [pAdv, if_neg (by rw [c_1]; decide)], _, _, _, by rw [pAdv, if_neg (by rw [c_1]; decide)]⟩ dX12_advice_14 hlk
theorem suI_s9 (f : Int → Int) (n : Nat) : suI f (n + 1) = suI f n + f n := rfl
set_option maxHeartbeats 4000000 in
set_option maxRecDepth 100000 in
theorem c_M_again {l : Launch} {D : va_G} {cy : Nat → ClassId} {B0 : Nat} {ix : Nat → Nat} {S : ST} {I : Int → Bool} {aM qM : Int → Int64} {tM : Int} {G : gF} (b : Int) (y : Int) (h_b : rI b) (h_y : rI y) (ho : okS S)  : gM l yX12_again vX12_again 2 42 D cy B0 [.ref (ix 100), .int (iI b), .int (iI y)] (mW cy ix S (mX I aM qM tM) G) (fun r g => r = some (.int (iI (pAga S b y).2.1)) ∧ ∃ (J : Int → Bool) (a q : Int → Int64), g = mW cy ix (pAga S b y).2.2 (mX J a q (pAga S b y).1) G) 0 0 := by
  refine g_start (cc := cX12_again) (maxL := 6) (ret := (some .int)) (by decide) rfl (Nat.le_of_ble_eq_true rfl) ?_
  intro p_ e_ s_ m_ be_ me_ co_ ls H locs K hr hlk hnm hK hW hl
  have hin : ∀ w ∈ wsX120, w ∈ vX12_again := wsM_cls
  obtain ⟨hx, hb, hml, hown, hts⟩ := id K
  have hl : lv_has ls 6 [(0, .ref (ix 100)), (1, .int (iI (b))), (2, .int (iI (y)))] := hl
  have hwf : wf S := ho.1
  refine lv_iload_n hx hb dX12_again_0 rfl (lv_at hl 1 rfl) ?_
  refine g_callS (As := [.int (iI (b))]) (rest := []) K (c_M_isBank (b) ⟨by omega, by omega⟩) (va_cwS 1 hts gM_X12_isBank rfl rfl rfl (by decide +kernel) ⟨Nat.le_of_ble_eq_true rfl, Nat.le_of_ble_eq_true rfl⟩) hK hW rfl hl.1 rfl (Nat.le_of_ble_eq_true rfl) dX12_again_1 ⟨Nat.le_refl _, Nat.le_refl _⟩ (fun v_ f_ H locs hp hW => ?_)
  obtain ⟨hpv, hpe⟩ := hp
  rw [hpe] at hW
  subst hpv
  refine lv_istore_n (lv' := [(3, .int (iI (bI (sIn (b) 0 5)))), (0, .ref (ix 100)), (1, .int (iI (b))), (2, .int (iI (y)))]) hx hb dX12_again_4 rfl hl (by decide) rfl (fun ls hl => ?_)
  refine lv_aload_n hx hb dX12_again_5 rfl (lv_at hl 1 rfl) ?_
  refine lv_iload_n hx hb dX12_again_6 rfl (lv_at hl 0 rfl) ?_
  refine lv_iload_n hx hb dX12_again_7 rfl (lv_at hl 0 rfl) ?_
  have j_1 : ∀ (zJ : Bool) (H : Heap) (locs : List Loc), zJ = (okG S b y) → gW D B0 s_ (mW cy ix S (mX (I) (aM) (qM) (tM)) G) H locs → W p_ l e_ { frames := 2, cells := 0, slots := 0, locals := 42 } s_ m_ ([.ref (ix 100), .int (iI b), .int (iI y)] : List Value).toArray be_ me_ co_ H locs 0 0 (MQ be_ (gQ D B0 (fun (r : Option Value) (g : gF) => r = some (.int (iI (pAga S b y).2.1)) ∧ ∃ (J : Int → Bool) (a q : Int → Int64), g = mW cy ix (pAga S b y).2.2 (mX J a q (pAga S b y).1) G)) ([.ref (ix 100), .int (iI b), .int (iI y)] : List Value).toArray s_ 0 0 (fun q : Nat => B0 ≤ q)) (F0 m_ 30 ls [.int (iI (bI (zJ))), .int (iI (bI (sIn (b) 0 5))), .ref (ix 100)]) := by
    intro zJ H locs hzJ hW
    subst hzJ
    refine xi_iconst hx hb dX12_again_30 ?_
    refine g_callV (i := 0) (As := [.int (iI (bI (sIn (b) 0 5))), .int (iI (bI (okG S b y))), .int (iI (1))]) (rest := []) K (c_M_goes (sIn (b) 0 5) (okG S b y) (true)) (cwV 3 hts gM_X12_goes rfl rfl rfl (by decide +kernel) ⟨Nat.le_of_ble_eq_true rfl, Nat.le_of_ble_eq_true rfl⟩) hK hW (mW_0 _ _ _ _ _) rfl rfl hl.1 rfl (Nat.le_of_ble_eq_true rfl) dX12_again_31 ⟨Nat.le_refl _, Nat.le_refl _⟩ (fun v_ f_ H locs hp hW => ?_)
    obtain ⟨hpv, hpe⟩ := hp
    rw [hpe] at hW
    subst hpv
    refine xi_ifb_ne (tgt := 39) hx hb dX12_again_34 (by decide) (fun c_2 => ?_) (fun c_2 => ?_)
    · have hg := c_2
      simp only [okG, sIn, Bool.and_eq_true, Bool.or_eq_true, decide_eq_true_eq, Bool.not_eq_true', decide_eq_false_iff_not, and_true, true_and] at hg
      have h80 := wf_8 hwf 0
      refine lv_aload_n hx hb dX12_again_39 rfl (lv_at hl 1 rfl) ?_
      refine mr_get K hK hW hin 29 (by decide) lM_taken (v := .ref (ix 129)) rfl dX12_again_40 ?_
      refine lv_iload_n hx hb dX12_again_43 rfl (lv_at hl 2 rfl) ?_
      refine lv_iload_n hx hb dX12_again_44 rfl (lv_at hl 3 rfl) ?_
      refine mr_iast K hK hW 29 (by decide) rfl (n := 6) rfl rfl ⟨by omega, by omega⟩ dX12_again_45 (fun H locs hW => ?_)
      refine xi_iconst hx hb dX12_again_46 ?_
      refine lv_istore (lv' := [(4, .int (iI (0))), (3, .int (iI (bI (sIn (b) 0 5)))), (0, .ref (ix 100)), (1, .int (iI (b))), (2, .int (iI (y)))]) hx hb dX12_again_47 hl (by decide) rfl (fun ls hl => ?_)
      refine xi_iconst hx hb dX12_again_49 ?_
      refine lv_istore (lv' := [(5, .int (iI (0))), (4, .int (iI (0))), (3, .int (iI (bI (sIn (b) 0 5)))), (0, .ref (ix 100)), (1, .int (iI (b))), (2, .int (iI (y)))]) hx hb dX12_again_50 hl (by decide) rfl (fun ls hl => ?_)
      refine lp_w1 (Wg := fun (H : Heap) (locs : List Loc) (ls : Array Slot) => W p_ l e_ { frames := 2, cells := 0, slots := 0, locals := 42 } s_ m_ ([.ref (ix 100), .int (iI b), .int (iI y)] : List Value).toArray be_ me_ co_ H locs 0 0 (MQ be_ (gQ D B0 (fun (r : Option Value) (g : gF) => r = some (.int (iI (pAga S b y).2.1)) ∧ ∃ (J : Int → Bool) (a q : Int → Int64), g = mW cy ix (pAga S b y).2.2 (mX J a q (pAga S b y).1) G)) ([.ref (ix 100), .int (iI b), .int (iI y)] : List Value).toArray s_ 0 0 (fun q : Nat => B0 ≤ q)) (F0 m_ 52 ls [])) (fun (k : Int) (H : Heap) (locs : List Loc) (ls : Array Slot) => (0 ≤ k ∧ k ≤ S.1 27 0) ∧ gW D B0 s_ (mW cy ix (pI S 29 (b) (y)) (mX (I) (aM) (qM) (sGo (sIn (b) 0 5) (okG S b y) true)) G) H locs ∧ lv_has ls 6 [(5, .int (iI (k))), (4, .int (iI (suI (agK S b) k.toNat))), (2, .int (iI (y))), (1, .int (iI (b))), (0, .ref (ix 100))]) (fun (k : Int) => (60 - k).toNat) (fun k H locs ls hI ih_lp_3 => ?_) (0) _ _ _ ⟨⟨by decide, (wf_27 hwf 0).1⟩, hW, lv_sub hl [0, 1, 5, 4, 3] rfl⟩
      obtain ⟨hI_lp_3, hW, hl⟩ := hI
      have hk := hI_lp_3
      refine lv_iload hx hb dX12_again_52 (lv_at hl 0 rfl) ?_
      refine lv_aload_n hx hb dX12_again_54 rfl (lv_at hl 4 rfl) ?_
      refine mr_get K hK hW hin 27 (by decide) lM_finals (v := .int (iI (S.1 27 (0)))) rfl dX12_again_55 ?_
      have w_w_4 := wf_27 hwf 0
      refine xi_icmp_ge (tgt := 93) hx hb ⟨by omega, by omega⟩ ⟨by omega, by omega⟩ dX12_again_58 (by decide) (fun c_5 => ?_) (fun c_5 => ?_)
      · have hke : k = S.1 27 0 := by omega
        rw [hke] at hl
        refine lv_iload hx hb dX12_again_93 (lv_at hl 1 rfl) ?_
        refine lv_iload_n hx hb dX12_again_95 rfl (lv_at hl 2 rfl) ?_
        refine xi_isub hx hb dX12_again_96 ?_
        exact g_iret hx hb hr hW ⟨by rw [pAga, if_pos c_2], _, _, _, by rw [pAga, if_pos c_2]⟩ dX12_again_97 hlk
      · refine lv_iload hx hb dX12_again_61 (lv_at hl 1 rfl) ?_
        have j_6 : ∀ (zJ : Int) (H : Heap) (locs : List Loc), zJ = (agK S b k) → gW D B0 s_ (mW cy ix (pI S 29 (b) (y)) (mX (I) (aM) (qM) (sGo (sIn (b) 0 5) (okG S b y) true)) G) H locs → W p_ l e_ { frames := 2, cells := 0, slots := 0, locals := 42 } s_ m_ ([.ref (ix 100), .int (iI b), .int (iI y)] : List Value).toArray be_ me_ co_ H locs 0 0 (MQ be_ (gQ D B0 (fun (r : Option Value) (g : gF) => r = some (.int (iI (pAga S b y).2.1)) ∧ ∃ (J : Int → Bool) (a q : Int → Int64), g = mW cy ix (pAga S b y).2.2 (mX J a q (pAga S b y).1) G)) ([.ref (ix 100), .int (iI b), .int (iI y)] : List Value).toArray s_ 0 0 (fun q : Nat => B0 ≤ q)) (F0 m_ 84 ls [.int (iI (zJ)), .int (iI (suI (agK S b) k.toNat))]) := by
          intro zJ H locs hzJ hW
          subst hzJ
          refine xi_iadd hx hb dX12_again_84 ?_
          refine lv_istore (lv' := [(4, .int (iI ((suI (agK S b) k.toNat) + (agK S b k)))), (5, .int (iI (k))), (2, .int (iI (y))), (1, .int (iI (b))), (0, .ref (ix 100))]) hx hb dX12_again_85 hl (by decide) rfl (fun ls hl => ?_)
          have hl : lv_has ls 6 [(4, .int (iI (suI (agK S b) (k + 1).toNat))), (5, .int (iI (k))), (2, .int (iI (y))), (1, .int (iI (b))), (0, .ref (ix 100))] := by
            have hbe : ((suI (agK S b) k.toNat) + (agK S b k)) = (suI (agK S b) (k + 1).toNat) := by rw [show (k + 1).toNat = k.toNat + 1 by omega, suI_s9, show ((k.toNat : Nat) : Int) = k by omega]
            rw [← hbe]; exact hl
          refine xi_iinc (lv' := [(5, .int (iI (k + 1))), (4, .int (iI (suI (agK S b) (k + 1).toNat))), (2, .int (iI (y))), (1, .int (iI (b))), (0, .ref (ix 100))]) hx hb dX12_again_87 hl (k := 1) rfl (by decide) rfl (fun ls hl => ?_)
          refine lv_goto (tgt := 52) hx hb dX12_again_90 (by decide) ?_
          exact ih_lp_3 (k + 1) _ _ _ (by have := wf_27 hwf 0; first | omega | (dsimp only; omega)) ⟨⟨by omega, by omega⟩, hW, lv_sub hl [0, 1, 2, 3, 4] rfl⟩
        refine lv_aload_n hx hb dX12_again_63 rfl (lv_at hl 4 rfl) ?_
        refine mr_get K hK hW hin 10 (by decide) lM_to (v := .ref (ix 110)) rfl dX12_again_64 ?_
        refine lv_aload_n hx hb dX12_again_67 rfl (lv_at hl 4 rfl) ?_
        refine mr_get K hK hW hin 28 (by decide) lM_finished (v := .ref (ix 128)) rfl dX12_again_68 ?_
        refine lv_iload hx hb dX12_again_71 (lv_at hl 0 rfl) ?_
        refine mr_iald K hK hW 28 (by decide) rfl (n := 60) rfl rfl ⟨by omega, by omega⟩ (v := S.1 28 (k)) rfl dX12_again_73 ?_
        have w_7 := wf_28 hwf (k)
        refine mr_iald K hK hW 10 (by decide) rfl (n := 60) rfl rfl ⟨by omega, by omega⟩ (v := S.1 10 (S.1 28 (k))) rfl dX12_again_74 ?_
        have w_8 := wf_10 hwf (S.1 28 (k))
        refine lv_iload_n hx hb dX12_again_75 rfl (lv_at hl 3 rfl) ?_
        refine xi_icmp_ne (tgt := 83) hx hb ⟨by omega, by omega⟩ ⟨by omega, by omega⟩ dX12_again_76 (by decide) (fun c_9 => ?_) (fun c_9 => ?_)
        · refine xi_iconst hx hb dX12_again_83 ?_
          exact xi_eq (z' := agK S b k) (by simp only [agK, c_2, c_5, Int.not_le.mpr c_5, c_9, decide_true, decide_false, Bool.true_and, Bool.and_true, Bool.false_and, Bool.and_false, Bool.true_or, Bool.or_true, Bool.false_or, Bool.or_false, Bool.not_true, Bool.not_false, eq_self, if_true, if_false, ite_true, ite_false, Bool.false_eq_true, reduceCtorEq, not_false_eq_true]) (j_6 _ _ _ rfl hW)
        · refine xi_iconst hx hb dX12_again_79 ?_
          refine lv_goto (tgt := 84) hx hb dX12_again_80 (by decide) ?_
          exact xi_eq (z' := agK S b k) (by simp only [agK, c_2, c_5, Int.not_le.mpr c_5, c_9, decide_true, decide_false, Bool.true_and, Bool.and_true, Bool.false_and, Bool.and_false, Bool.true_or, Bool.or_true, Bool.false_or, Bool.or_false, Bool.not_true, Bool.not_false, eq_self, if_true, if_false, ite_true, ite_false, Bool.false_eq_true, reduceCtorEq, not_false_eq_true]) (j_6 _ _ _ rfl hW)
    · refine xi_iconst hx hb dX12_again_37 ?_
      exact g_iret hx hb hr hW ⟨by rw [pAga, if_neg (by rw [c_2]; decide)], _, _, _, by rw [pAga, if_neg (by rw [c_2]; decide)]⟩ dX12_again_38 hlk
  refine xi_ifb_eq (tgt := 29) hx hb dX12_again_8 (by decide) (fun c_10 => ?_) (fun c_10 => ?_)
  · refine xi_iconst hx hb dX12_again_29 ?_
    exact xi_eq (z' := bI (okG S b y)) (bI_f (by simp only [okG, c_10, decide_true, decide_false, Bool.true_and, Bool.and_true, Bool.false_and, Bool.and_false, Bool.true_or, Bool.or_true, Bool.false_or, Bool.or_false, Bool.not_true, Bool.not_false, eq_self])) (j_1 _ _ _ rfl hW)
  · have hq := c_10
    simp only [sIn, Bool.and_eq_true, decide_eq_true_eq] at hq
    refine lv_iload_n hx hb dX12_again_11 rfl (lv_at hl 3 rfl) ?_
    refine xi_iconst hx hb dX12_again_12 ?_
    refine lv_aload_n hx hb dX12_again_13 rfl (lv_at hl 1 rfl) ?_
    refine mr_get K hK hW hin 30 (by decide) lM_most (v := .ref (ix 130)) rfl dX12_again_14 ?_
    refine lv_iload_n hx hb dX12_again_17 rfl (lv_at hl 2 rfl) ?_
    refine mr_iald K hK hW 30 (by decide) rfl (n := 6) rfl rfl ⟨by omega, by omega⟩ (v := S.1 30 (b)) rfl dX12_again_18 ?_
    have w_11 := wf_30 hwf (b)
    refine g_callS (As := [.int (iI (y)), .int (iI (0)), .int (iI (S.1 30 (b)))]) (rest := [.int (iI (bI (sIn (b) 0 5))), .ref (ix 100)]) K (c_M_in (y) (0) (S.1 30 (b)) ⟨by omega, by omega⟩ ⟨by omega, by omega⟩ ⟨by omega, by omega⟩) (va_cwS 3 hts gM_X12_in rfl rfl rfl (by decide +kernel) ⟨Nat.le_of_ble_eq_true rfl, Nat.le_of_ble_eq_true rfl⟩) hK hW rfl hl.1 rfl (Nat.le_of_ble_eq_true rfl) dX12_again_19 ⟨Nat.le_refl _, Nat.le_refl _⟩ (fun v_ f_ H locs hp hW => ?_)
    obtain ⟨hpv, hpe⟩ := hp
    rw [hpe] at hW
    subst hpv
    refine xi_ifb_eq (tgt := 29) hx hb dX12_again_22 (by decide) (fun c_12 => ?_) (fun c_12 => ?_)
    · refine xi_iconst hx hb dX12_again_29 ?_
      exact xi_eq (z' := bI (okG S b y)) (bI_f (by simp only [okG, c_10, c_12, decide_true, decide_false, Bool.true_and, Bool.and_true, Bool.false_and, Bool.and_false, Bool.true_or, Bool.or_true, Bool.false_or, Bool.or_false, Bool.not_true, Bool.not_false, eq_self])) (j_1 _ _ _ rfl hW)
    · refine xi_iconst hx hb dX12_again_25 ?_
      refine lv_goto (tgt := 30) hx hb dX12_again_26 (by decide) ?_
      exact xi_eq (z' := bI (okG S b y)) (bI_t (by simp only [okG, c_10, c_12, decide_true, decide_false, Bool.true_and, Bool.and_true, Bool.false_and, Bool.and_false, Bool.true_or, Bool.or_true, Bool.false_or, Bool.or_false, Bool.not_true, Bool.not_false, eq_self])) (j_1 _ _ _ rfl hW)
theorem sAnew_s (S : ST) (b c : Int) (n : Nat) : sAnew S b c (n + 1) = neS S b c n (sAnew S b c n) := rfl
set_option maxHeartbeats 4000000 in
set_option maxRecDepth 100000 in
theorem c_M_accountAnew {l : Launch} {D : va_G} {cy : Nat → ClassId} {B0 : Nat} {ix : Nat → Nat} {S : ST} {I : Int → Bool} {aM qM : Int → Int64} {tM : Int} {G : gF} (b : Int) (c : Int) (h_b : rI b) (h_c : rI c) (ho : okS S)  : gM l yX12_accountAnew vX12_accountAnew 2 42 D cy B0 [.ref (ix 100), .int (iI b), .int (iI c)] (mW cy ix S (mX I aM qM tM) G) (fun r g => r = some (.long (pAnew S b c).2.1) ∧ ∃ (J : Int → Bool) (a q : Int → Int64), g = mW cy ix (pAnew S b c).2.2 (mX J a q (pAnew S b c).1) G) 0 0 := by
  refine g_start (cc := cX12_accountAnew) (maxL := 7) (ret := (some .long)) (by decide) rfl (Nat.le_of_ble_eq_true rfl) ?_
  intro p_ e_ s_ m_ be_ me_ co_ ls H locs K hr hlk hnm hK hW hl
  have hin : ∀ w ∈ wsX120, w ∈ vX12_accountAnew := wsM_cls
  obtain ⟨hx, hb, hml, hown, hts⟩ := id K
  have hl : lv_has ls 7 [(0, .ref (ix 100)), (1, .int (iI (b))), (2, .int (iI (c)))] := hl
  have hwf : wf S := ho.1
  refine lv_aload_n hx hb dX12_accountAnew_0 rfl (lv_at hl 0 rfl) ?_
  have j_1 : ∀ (zJ : Bool) (H : Heap) (locs : List Loc), zJ = (sIn b 0 6 && sIn c 0 2) → gW D B0 s_ (mW cy ix S (mX (I) (aM) (qM) (tM)) G) H locs → W p_ l e_ { frames := 2, cells := 0, slots := 0, locals := 42 } s_ m_ ([.ref (ix 100), .int (iI b), .int (iI c)] : List Value).toArray be_ me_ co_ H locs 0 0 (MQ be_ (gQ D B0 (fun (r : Option Value) (g : gF) => r = some (.long (pAnew S b c).2.1) ∧ ∃ (J : Int → Bool) (a q : Int → Int64), g = mW cy ix (pAnew S b c).2.2 (mX J a q (pAnew S b c).1) G)) ([.ref (ix 100), .int (iI b), .int (iI c)] : List Value).toArray s_ 0 0 (fun q : Nat => B0 ≤ q)) (F0 m_ 20 ls [.int (iI (bI (zJ))), .ref (ix 100)]) := by
    intro zJ H locs hzJ hW
    subst hzJ
    refine xi_iconst hx hb dX12_accountAnew_20 ?_
    refine xi_iconst hx hb dX12_accountAnew_21 ?_
    refine g_callV (i := 0) (As := [.int (iI (bI (sIn b 0 6 && sIn c 0 2))), .int (iI (1)), .int (iI (1))]) (rest := []) K (c_M_goes (sIn b 0 6 && sIn c 0 2) (true) (true)) (cwV 3 hts gM_X12_goes rfl rfl rfl (by decide +kernel) ⟨Nat.le_of_ble_eq_true rfl, Nat.le_of_ble_eq_true rfl⟩) hK hW (mW_0 _ _ _ _ _) rfl rfl hl.1 rfl (Nat.le_of_ble_eq_true rfl) dX12_accountAnew_22 ⟨Nat.le_refl _, Nat.le_refl _⟩ (fun v_ f_ H locs hp hW => ?_)
    obtain ⟨hpv, hpe⟩ := hp
    rw [hpe] at hW
    subst hpv
    refine xi_ifb_ne (tgt := 30) hx hb dX12_accountAnew_25 (by decide) (fun c_2 => ?_) (fun c_2 => ?_)
    · have hg := c_2
      simp only [sIn, Bool.and_eq_true, Bool.or_eq_true, decide_eq_true_eq, Bool.not_eq_true', decide_eq_false_iff_not, and_true, true_and] at hg
      have h80 := wf_8 hwf 0
      refine lv_lconst (v := 0) hx hb dX12_accountAnew_30 (by decide) ?_
      refine lv_lstore_n (lv' := [(3, .long (0)), (0, .ref (ix 100)), (1, .int (iI (b))), (2, .int (iI (c)))]) hx hb dX12_accountAnew_31 rfl hl (by decide) rfl (fun ls hl => ?_)
      refine xi_iconst hx hb dX12_accountAnew_32 ?_
      refine lv_istore (lv' := [(5, .int (iI (0))), (3, .long (0)), (0, .ref (ix 100)), (1, .int (iI (b))), (2, .int (iI (c)))]) hx hb dX12_accountAnew_33 hl (by decide) rfl (fun ls hl => ?_)
      refine lp_w1 (Wg := fun (H : Heap) (locs : List Loc) (ls : Array Slot) => W p_ l e_ { frames := 2, cells := 0, slots := 0, locals := 42 } s_ m_ ([.ref (ix 100), .int (iI b), .int (iI c)] : List Value).toArray be_ me_ co_ H locs 0 0 (MQ be_ (gQ D B0 (fun (r : Option Value) (g : gF) => r = some (.long (pAnew S b c).2.1) ∧ ∃ (J : Int → Bool) (a q : Int → Int64), g = mW cy ix (pAnew S b c).2.2 (mX J a q (pAnew S b c).1) G)) ([.ref (ix 100), .int (iI b), .int (iI c)] : List Value).toArray s_ 0 0 (fun q : Nat => B0 ≤ q)) (F0 m_ 35 ls [])) (fun (k : Int) (H : Heap) (locs : List Loc) (ls : Array Slot) => (0 ≤ k ∧ k ≤ S.1 31 0) ∧ gW D B0 s_ (mW cy ix S (mX (I) (aM) (qM) (sGo (sIn b 0 6 && sIn c 0 2) true true)) G) H locs ∧ lv_has ls 7 [(5, .int (iI (k))), (3, .long (sAnew S b c k.toNat)), (2, .int (iI (c))), (1, .int (iI (b))), (0, .ref (ix 100))]) (fun (k : Int) => (29990 - k).toNat) (fun k H locs ls hI ih_lp_3 => ?_) (0) _ _ _ ⟨⟨by decide, (wf_31 hwf 0).1⟩, hW, lv_sub hl [0, 1, 4, 3, 2] rfl⟩
      obtain ⟨hI_lp_3, hW, hl⟩ := hI
      have hk := hI_lp_3
      refine lv_iload hx hb dX12_accountAnew_35 (lv_at hl 0 rfl) ?_
      refine lv_aload_n hx hb dX12_accountAnew_37 rfl (lv_at hl 4 rfl) ?_
      refine mr_get K hK hW hin 31 (by decide) lM_entries (v := .int (iI (S.1 31 (0)))) rfl dX12_accountAnew_38 ?_
      have w_w_4 := wf_31 hwf 0
      refine xi_icmp_ge (tgt := 152) hx hb ⟨by omega, by omega⟩ ⟨by omega, by omega⟩ dX12_accountAnew_41 (by decide) (fun c_5 => ?_) (fun c_5 => ?_)
      · have hke : k = S.1 31 0 := by omega
        rw [hke] at hl
        refine lv_lload_n hx hb dX12_accountAnew_152 rfl (lv_at hl 1 rfl) ?_
        exact g_lret hx hb hr hW ⟨by rw [pAnew, if_pos c_2], _, _, _, by rw [pAnew, if_pos c_2]⟩ dX12_accountAnew_153 hlk
      · have j_6 : ∀ (zJ : Bool) (H : Heap) (locs : List Loc), zJ = (neB S c k) → gW D B0 s_ (mW cy ix S (mX (I) (aM) (qM) (sGo (sIn b 0 6 && sIn c 0 2) true true)) G) H locs → W p_ l e_ { frames := 2, cells := 0, slots := 0, locals := 42 } s_ m_ ([.ref (ix 100), .int (iI b), .int (iI c)] : List Value).toArray be_ me_ co_ H locs 0 0 (MQ be_ (gQ D B0 (fun (r : Option Value) (g : gF) => r = some (.long (pAnew S b c).2.1) ∧ ∃ (J : Int → Bool) (a q : Int → Int64), g = mW cy ix (pAnew S b c).2.2 (mX J a q (pAnew S b c).1) G)) ([.ref (ix 100), .int (iI b), .int (iI c)] : List Value).toArray s_ 0 0 (fun q : Nat => B0 ≤ q)) (F0 m_ 66 ls [.int (iI (bI (zJ)))]) := by
          intro zJ H locs hzJ hW
          subst hzJ
          refine lv_istore (lv' := [(6, .int (iI (bI (neB S c k)))), (5, .int (iI (k))), (3, .long (sAnew S b c k.toNat)), (2, .int (iI (c))), (1, .int (iI (b))), (0, .ref (ix 100))]) hx hb dX12_accountAnew_66 hl (by decide) rfl (fun ls hl => ?_)
          refine lv_lload_n hx hb dX12_accountAnew_68 rfl (lv_at hl 2 rfl) ?_
          have j_7 : ∀ (zJ : Int64) (H : Heap) (locs : List Loc), zJ = (neV S b c k 0) → gW D B0 s_ (mW cy ix S (mX (I) (aM) (qM) (sGo (sIn b 0 6 && sIn c 0 2) true true)) G) H locs → W p_ l e_ { frames := 2, cells := 0, slots := 0, locals := 42 } s_ m_ ([.ref (ix 100), .int (iI b), .int (iI c)] : List Value).toArray be_ me_ co_ H locs 0 0 (MQ be_ (gQ D B0 (fun (r : Option Value) (g : gF) => r = some (.long (pAnew S b c).2.1) ∧ ∃ (J : Int → Bool) (a q : Int → Int64), g = mW cy ix (pAnew S b c).2.2 (mX J a q (pAnew S b c).1) G)) ([.ref (ix 100), .int (iI b), .int (iI c)] : List Value).toArray s_ 0 0 (fun q : Nat => B0 ≤ q)) (F0 m_ 104 ls [.long (zJ), .long (sAnew S b c k.toNat)]) := by
            intro zJ H locs hzJ hW
            subst hzJ
            refine lv_lsub hx hb dX12_accountAnew_104 ?_
            refine lv_lstore_n (lv' := [(3, .long ((sAnew S b c k.toNat) - (neV S b c k 0))), (6, .int (iI (bI (neB S c k)))), (5, .int (iI (k))), (2, .int (iI (c))), (1, .int (iI (b))), (0, .ref (ix 100))]) hx hb dX12_accountAnew_105 rfl hl (by decide) rfl (fun ls hl => ?_)
            refine lv_lload_n hx hb dX12_accountAnew_106 rfl (lv_at hl 0 rfl) ?_
            have j_8 : ∀ (zJ : Int64) (H : Heap) (locs : List Loc), zJ = (neV S b c k 1) → gW D B0 s_ (mW cy ix S (mX (I) (aM) (qM) (sGo (sIn b 0 6 && sIn c 0 2) true true)) G) H locs → W p_ l e_ { frames := 2, cells := 0, slots := 0, locals := 42 } s_ m_ ([.ref (ix 100), .int (iI b), .int (iI c)] : List Value).toArray be_ me_ co_ H locs 0 0 (MQ be_ (gQ D B0 (fun (r : Option Value) (g : gF) => r = some (.long (pAnew S b c).2.1) ∧ ∃ (J : Int → Bool) (a q : Int → Int64), g = mW cy ix (pAnew S b c).2.2 (mX J a q (pAnew S b c).1) G)) ([.ref (ix 100), .int (iI b), .int (iI c)] : List Value).toArray s_ 0 0 (fun q : Nat => B0 ≤ q)) (F0 m_ 144 ls [.long (zJ), .long ((sAnew S b c k.toNat) - (neV S b c k 0))]) := by
              intro zJ H locs hzJ hW
              subst hzJ
              refine lv_ladd hx hb dX12_accountAnew_144 ?_
              refine lv_lstore_n (lv' := [(3, .long (((sAnew S b c k.toNat) - (neV S b c k 0)) + (neV S b c k 1))), (6, .int (iI (bI (neB S c k)))), (5, .int (iI (k))), (2, .int (iI (c))), (1, .int (iI (b))), (0, .ref (ix 100))]) hx hb dX12_accountAnew_145 rfl hl (by decide) rfl (fun ls hl => ?_)
              have hl : lv_has ls 7 [(3, .long (sAnew S b c (k + 1).toNat)), (6, .int (iI (bI (neB S c k)))), (5, .int (iI (k))), (2, .int (iI (c))), (1, .int (iI (b))), (0, .ref (ix 100))] := by
                have hbe : (((sAnew S b c k.toNat) - (neV S b c k 0)) + (neV S b c k 1)) = (sAnew S b c (k + 1).toNat) := by rw [show (k + 1).toNat = k.toNat + 1 by omega, sAnew_s, show ((k.toNat : Nat) : Int) = k by omega]; rfl
                rw [← hbe]; exact hl
              refine xi_iinc (lv' := [(5, .int (iI (k + 1))), (3, .long (sAnew S b c (k + 1).toNat)), (6, .int (iI (bI (neB S c k)))), (2, .int (iI (c))), (1, .int (iI (b))), (0, .ref (ix 100))]) hx hb dX12_accountAnew_146 hl (k := 2) rfl (by decide) rfl (fun ls hl => ?_)
              refine lv_goto (tgt := 35) hx hb dX12_accountAnew_149 (by decide) ?_
              exact ih_lp_3 (k + 1) _ _ _ (by have := wf_31 hwf 0; first | omega | (dsimp only; omega)) ⟨⟨by omega, by omega⟩, hW, lv_sub hl [0, 1, 3, 4, 5] rfl⟩
            refine lv_iload hx hb dX12_accountAnew_107 (lv_at hl 1 rfl) ?_
            refine xi_ifb_eq (tgt := 143) hx hb dX12_accountAnew_109 (by decide) (fun c_9 => ?_) (fun c_9 => ?_)
            · refine lv_lconst (v := 0) hx hb dX12_accountAnew_143 (by decide) ?_
              exact xl_eq (z' := neV S b c k 1) (by simp only [neV, c_2, c_5, Int.not_le.mpr c_5, c_9, Int.add_zero, decide_true, decide_false, Bool.true_and, Bool.and_true, Bool.false_and, Bool.and_false, Bool.true_or, Bool.or_true, Bool.false_or, Bool.or_false, Bool.not_true, Bool.not_false, eq_self, if_true, if_false, ite_true, ite_false, Bool.false_eq_true, reduceCtorEq, not_false_eq_true]) (j_8 _ _ _ rfl hW)
            · refine lv_aload_n hx hb dX12_accountAnew_112 rfl (lv_at hl 5 rfl) ?_
              refine mr_get K hK hW hin 32 (by decide) lM_entry (v := .ref (ix 132)) rfl dX12_accountAnew_113 ?_
              refine xi_iconst hx hb dX12_accountAnew_116 ?_
              refine lv_iload hx hb dX12_accountAnew_117 (lv_at hl 2 rfl) ?_
              refine xi_imul hx hb dX12_accountAnew_119 ?_
              refine xi_iconst hx hb dX12_accountAnew_120 ?_
              refine xi_iadd hx hb dX12_accountAnew_121 ?_
              refine mr_lald K hK hW 32 (by decide) rfl (n := 150000) rfl rfl ⟨by omega, by omega⟩ (v := S.2 32 ((5 * k) + 1)) rfl dX12_accountAnew_122 ?_
              refine lv_iload_n hx hb dX12_accountAnew_123 rfl (lv_at hl 4 rfl) ?_
              refine xi_i2l hx hb ⟨by omega, by omega⟩ dX12_accountAnew_124 ?_
              refine xi_lcmp_ne (tgt := 143) hx hb dX12_accountAnew_125 dX12_accountAnew_126 (by decide) (fun c_10 => ?_) (fun c_10 => ?_)
              · refine lv_lconst (v := 0) hx hb dX12_accountAnew_143 (by decide) ?_
                exact xl_eq (z' := neV S b c k 1) (by simp only [neV, c_2, c_5, Int.not_le.mpr c_5, c_9, c_10, Int.add_zero, decide_true, decide_false, Bool.true_and, Bool.and_true, Bool.false_and, Bool.and_false, Bool.true_or, Bool.or_true, Bool.false_or, Bool.or_false, Bool.not_true, Bool.not_false, eq_self, if_true, if_false, ite_true, ite_false, Bool.false_eq_true, reduceCtorEq, not_false_eq_true]) (j_8 _ _ _ rfl hW)
              · refine lv_aload_n hx hb dX12_accountAnew_129 rfl (lv_at hl 5 rfl) ?_
                refine mr_get K hK hW hin 32 (by decide) lM_entry (v := .ref (ix 132)) rfl dX12_accountAnew_130 ?_
                refine xi_iconst hx hb dX12_accountAnew_133 ?_
                refine lv_iload hx hb dX12_accountAnew_134 (lv_at hl 2 rfl) ?_
                refine xi_imul hx hb dX12_accountAnew_136 ?_
                refine xi_iconst hx hb dX12_accountAnew_137 ?_
                refine xi_iadd hx hb dX12_accountAnew_138 ?_
                refine mr_lald K hK hW 32 (by decide) rfl (n := 150000) rfl rfl ⟨by omega, by omega⟩ (v := S.2 32 ((5 * k) + 3)) rfl dX12_accountAnew_139 ?_
                refine lv_goto (tgt := 144) hx hb dX12_accountAnew_140 (by decide) ?_
                exact xl_eq (z' := neV S b c k 1) (by simp only [neV, c_2, c_5, Int.not_le.mpr c_5, c_9, c_10, Int.add_zero, decide_true, decide_false, Bool.true_and, Bool.and_true, Bool.false_and, Bool.and_false, Bool.true_or, Bool.or_true, Bool.false_or, Bool.or_false, Bool.not_true, Bool.not_false, eq_self, if_true, if_false, ite_true, ite_false, Bool.false_eq_true, reduceCtorEq, not_false_eq_true]) (j_8 _ _ _ rfl hW)
          refine lv_iload hx hb dX12_accountAnew_69 (lv_at hl 0 rfl) ?_
          refine xi_ifb_eq (tgt := 103) hx hb dX12_accountAnew_71 (by decide) (fun c_11 => ?_) (fun c_11 => ?_)
          · refine lv_lconst (v := 0) hx hb dX12_accountAnew_103 (by decide) ?_
            exact xl_eq (z' := neV S b c k 0) (by simp only [neV, c_2, c_5, Int.not_le.mpr c_5, c_11, Int.add_zero, decide_true, decide_false, Bool.true_and, Bool.and_true, Bool.false_and, Bool.and_false, Bool.true_or, Bool.or_true, Bool.false_or, Bool.or_false, Bool.not_true, Bool.not_false, eq_self, if_true, if_false, ite_true, ite_false, Bool.false_eq_true, reduceCtorEq, not_false_eq_true]) (j_7 _ _ _ rfl hW)
          · refine lv_aload_n hx hb dX12_accountAnew_74 rfl (lv_at hl 5 rfl) ?_
            refine mr_get K hK hW hin 32 (by decide) lM_entry (v := .ref (ix 132)) rfl dX12_accountAnew_75 ?_
            refine xi_iconst hx hb dX12_accountAnew_78 ?_
            refine lv_iload hx hb dX12_accountAnew_79 (lv_at hl 1 rfl) ?_
            refine xi_imul hx hb dX12_accountAnew_81 ?_
            refine mr_lald K hK hW 32 (by decide) rfl (n := 150000) rfl rfl ⟨by omega, by omega⟩ (v := S.2 32 (5 * k)) rfl dX12_accountAnew_82 ?_
            refine lv_iload_n hx hb dX12_accountAnew_83 rfl (lv_at hl 4 rfl) ?_
            refine xi_i2l hx hb ⟨by omega, by omega⟩ dX12_accountAnew_84 ?_
            refine xi_lcmp_ne (tgt := 103) hx hb dX12_accountAnew_85 dX12_accountAnew_86 (by decide) (fun c_12 => ?_) (fun c_12 => ?_)
            · refine lv_lconst (v := 0) hx hb dX12_accountAnew_103 (by decide) ?_
              exact xl_eq (z' := neV S b c k 0) (by simp only [neV, c_2, c_5, Int.not_le.mpr c_5, c_11, c_12, Int.add_zero, decide_true, decide_false, Bool.true_and, Bool.and_true, Bool.false_and, Bool.and_false, Bool.true_or, Bool.or_true, Bool.false_or, Bool.or_false, Bool.not_true, Bool.not_false, eq_self, if_true, if_false, ite_true, ite_false, Bool.false_eq_true, reduceCtorEq, not_false_eq_true]) (j_7 _ _ _ rfl hW)
            · refine lv_aload_n hx hb dX12_accountAnew_89 rfl (lv_at hl 5 rfl) ?_
              refine mr_get K hK hW hin 32 (by decide) lM_entry (v := .ref (ix 132)) rfl dX12_accountAnew_90 ?_
              refine xi_iconst hx hb dX12_accountAnew_93 ?_
              refine lv_iload hx hb dX12_accountAnew_94 (lv_at hl 1 rfl) ?_
              refine xi_imul hx hb dX12_accountAnew_96 ?_
              refine xi_iconst hx hb dX12_accountAnew_97 ?_
              refine xi_iadd hx hb dX12_accountAnew_98 ?_
              refine mr_lald K hK hW 32 (by decide) rfl (n := 150000) rfl rfl ⟨by omega, by omega⟩ (v := S.2 32 ((5 * k) + 3)) rfl dX12_accountAnew_99 ?_
              refine lv_goto (tgt := 104) hx hb dX12_accountAnew_100 (by decide) ?_
              exact xl_eq (z' := neV S b c k 0) (by simp only [neV, c_2, c_5, Int.not_le.mpr c_5, c_11, c_12, Int.add_zero, decide_true, decide_false, Bool.true_and, Bool.and_true, Bool.false_and, Bool.and_false, Bool.true_or, Bool.or_true, Bool.false_or, Bool.or_false, Bool.not_true, Bool.not_false, eq_self, if_true, if_false, ite_true, ite_false, Bool.false_eq_true, reduceCtorEq, not_false_eq_true]) (j_7 _ _ _ rfl hW)
        refine lv_aload_n hx hb dX12_accountAnew_44 rfl (lv_at hl 4 rfl) ?_
        refine mr_get K hK hW hin 32 (by decide) lM_entry (v := .ref (ix 132)) rfl dX12_accountAnew_45 ?_
        refine xi_iconst hx hb dX12_accountAnew_48 ?_
        refine lv_iload hx hb dX12_accountAnew_49 (lv_at hl 0 rfl) ?_
        refine xi_imul hx hb dX12_accountAnew_51 ?_
        refine xi_iconst hx hb dX12_accountAnew_52 ?_
        refine xi_iadd hx hb dX12_accountAnew_53 ?_
        refine mr_lald K hK hW 32 (by decide) rfl (n := 150000) rfl rfl ⟨by omega, by omega⟩ (v := S.2 32 ((5 * k) + 2)) rfl dX12_accountAnew_54 ?_
        refine lv_iload_n hx hb dX12_accountAnew_55 rfl (lv_at hl 2 rfl) ?_
        refine xi_i2l hx hb ⟨by omega, by omega⟩ dX12_accountAnew_56 ?_
        refine xi_lcmp_ne (tgt := 65) hx hb dX12_accountAnew_57 dX12_accountAnew_58 (by decide) (fun c_13 => ?_) (fun c_13 => ?_)
        · refine xi_iconst hx hb dX12_accountAnew_65 ?_
          exact xi_eq (z' := bI (neB S c k)) (bI_f (by simp only [neB, c_2, c_5, Int.not_le.mpr c_5, c_13, decide_true, decide_false, Bool.true_and, Bool.and_true, Bool.false_and, Bool.and_false, Bool.true_or, Bool.or_true, Bool.false_or, Bool.or_false, Bool.not_true, Bool.not_false, eq_self])) (j_6 _ _ _ rfl hW)
        · refine xi_iconst hx hb dX12_accountAnew_61 ?_
          refine lv_goto (tgt := 66) hx hb dX12_accountAnew_62 (by decide) ?_
          exact xi_eq (z' := bI (neB S c k)) (bI_t (by simp only [neB, c_2, c_5, Int.not_le.mpr c_5, c_13, decide_true, decide_false, Bool.true_and, Bool.and_true, Bool.false_and, Bool.and_false, Bool.true_or, Bool.or_true, Bool.false_or, Bool.or_false, Bool.not_true, Bool.not_false, eq_self])) (j_6 _ _ _ rfl hW)
    · refine lv_lconst (v := 0) hx hb dX12_accountAnew_28 (by decide) ?_
      exact g_lret hx hb hr hW ⟨by rw [pAnew, if_neg (by rw [c_2]; decide)], _, _, _, by rw [pAnew, if_neg (by rw [c_2]; decide)]⟩ dX12_accountAnew_29 hlk
  refine lv_iload_n hx hb dX12_accountAnew_1 rfl (lv_at hl 1 rfl) ?_
  refine g_callS (As := [.int (iI (b))]) (rest := [.ref (ix 100)]) K (c_M_isAccount (b) ⟨by omega, by omega⟩) (va_cwS 1 hts gM_X12_isAccount rfl rfl rfl (by decide +kernel) ⟨Nat.le_of_ble_eq_true rfl, Nat.le_of_ble_eq_true rfl⟩) hK hW rfl hl.1 rfl (Nat.le_of_ble_eq_true rfl) dX12_accountAnew_2 ⟨Nat.le_refl _, Nat.le_refl _⟩ (fun v_ f_ H locs hp hW => ?_)
  obtain ⟨hpv, hpe⟩ := hp
  rw [hpe] at hW
  subst hpv
  refine xi_ifb_eq (tgt := 19) hx hb dX12_accountAnew_5 (by decide) (fun c_14 => ?_) (fun c_14 => ?_)
  · refine xi_iconst hx hb dX12_accountAnew_19 ?_
    exact xi_eq (z' := bI (sIn b 0 6 && sIn c 0 2)) (bI_f (by simp only [c_14, decide_true, decide_false, Bool.true_and, Bool.and_true, Bool.false_and, Bool.and_false, Bool.true_or, Bool.or_true, Bool.false_or, Bool.or_false, Bool.not_true, Bool.not_false, eq_self])) (j_1 _ _ _ rfl hW)
  · refine lv_iload_n hx hb dX12_accountAnew_8 rfl (lv_at hl 2 rfl) ?_
    refine g_callS (As := [.int (iI (c))]) (rest := [.ref (ix 100)]) K (c_M_isCurrency (c) ⟨by omega, by omega⟩) (va_cwS 1 hts gM_X12_isCurrency rfl rfl rfl (by decide +kernel) ⟨Nat.le_of_ble_eq_true rfl, Nat.le_of_ble_eq_true rfl⟩) hK hW rfl hl.1 rfl (Nat.le_of_ble_eq_true rfl) dX12_accountAnew_9 ⟨Nat.le_refl _, Nat.le_refl _⟩ (fun v_ f_ H locs hp hW => ?_)
    obtain ⟨hpv, hpe⟩ := hp
    rw [hpe] at hW
    subst hpv
    refine xi_ifb_eq (tgt := 19) hx hb dX12_accountAnew_12 (by decide) (fun c_15 => ?_) (fun c_15 => ?_)
    · refine xi_iconst hx hb dX12_accountAnew_19 ?_
      exact xi_eq (z' := bI (sIn b 0 6 && sIn c 0 2)) (bI_f (by simp only [c_14, c_15, decide_true, decide_false, Bool.true_and, Bool.and_true, Bool.false_and, Bool.and_false, Bool.true_or, Bool.or_true, Bool.false_or, Bool.or_false, Bool.not_true, Bool.not_false, eq_self])) (j_1 _ _ _ rfl hW)
    · refine xi_iconst hx hb dX12_accountAnew_15 ?_
      refine lv_goto (tgt := 20) hx hb dX12_accountAnew_16 (by decide) ?_
      exact xi_eq (z' := bI (sIn b 0 6 && sIn c 0 2)) (bI_t (by simp only [c_14, c_15, decide_true, decide_false, Bool.true_and, Bool.and_true, Bool.false_and, Bool.and_false, Bool.true_or, Bool.or_true, Bool.false_or, Bool.or_false, Bool.not_true, Bool.not_false, eq_self])) (j_1 _ _ _ rfl hW)
theorem sdI_r {S : ST} (hw : wf S) (b msg u c nm : Int) : -1 ≤ sdI S b msg u c nm ∧ sdI S b msg u c nm ≤ 59 := by
  unfold sdI
  split
  · exact wf_25 hw _
  · decide
theorem sCome_8 {S : ST} (b u c v nm h : Int) (rl : Bool) (d : Int) (st : Bool) : cNF (sCome S b u c v nm h rl d st) = cNF (sCome S b u c v nm h rl d st) := rfl
set_option maxHeartbeats 4000000 in
set_option maxRecDepth 100000 in
theorem c_M_send {l : Launch} {D : va_G} {cy : Nat → ClassId} {B0 : Nat} {ix : Nat → Nat} {S : ST} {I : Int → Bool} {aM qM : Int → Int64} {tM : Int} {G : gF} (b : Int) (msg : Int) (u : Int) (c : Int) (v : Int) (nm : Int) (h : Int) (rl : Bool) (d : Int) (st : Bool) (h_b : rI b) (h_msg : rI msg) (h_u : rI u) (h_c : rI c) (h_v : rI v) (h_nm : rI nm) (h_h : rI h) (h_d : rI d) (ho : okS S) (hs8 : S.1 8 0 < 60 → S.1 18 (S.1 8 0) ≠ 4) : gM l yX12_send vX12_send 5 117 D cy B0 [.ref (ix 100), .int (iI b), .int (iI msg), .int (iI u), .int (iI c), .int (iI v), .int (iI nm), .int (iI h), .int (iI (bI rl)), .int (iI d), .int (iI (bI st))] (mW cy ix S (mX I aM qM tM) G) (fun r g => r = some (.int (iI (pSend S b msg u c v nm h rl d st).2.1)) ∧ ∃ (J : Int → Bool) (a q : Int → Int64), g = mW cy ix (pSend S b msg u c v nm h rl d st).2.2 (mX J a q (pSend S b msg u c v nm h rl d st).1) G) 0 0 := by
  refine g_start (cc := cX12_send) (maxL := 16) (ret := (some .int)) (by decide) rfl (Nat.le_of_ble_eq_true rfl) ?_
  intro p_ e_ s_ m_ be_ me_ co_ ls H locs K hr hlk hnm hK hW hl
  have hin : ∀ w ∈ wsX120, w ∈ vX12_send := wsM_cls
  obtain ⟨hx, hb, hml, hown, hts⟩ := id K
  have hl : lv_has ls 16 [(0, .ref (ix 100)), (1, .int (iI (b))), (2, .int (iI (msg))), (3, .int (iI (u))), (4, .int (iI (c))), (5, .int (iI (v))), (6, .int (iI (nm))), (7, .int (iI (h))), (8, .int (iI (bI (rl)))), (9, .int (iI (d))), (10, .int (iI (bI (st))))] := hl
  have hwf : wf S := ho.1
  have j_1 : ∀ (zJ : Bool) (H : Heap) (locs : List Loc), zJ = (sdA b msg u c nm) → gW D B0 s_ (mW cy ix S (mX (I) (aM) (qM) (tM)) G) H locs → W p_ l e_ { frames := 5, cells := 0, slots := 0, locals := 117 } s_ m_ ([.ref (ix 100), .int (iI b), .int (iI msg), .int (iI u), .int (iI c), .int (iI v), .int (iI nm), .int (iI h), .int (iI (bI rl)), .int (iI d), .int (iI (bI st))] : List Value).toArray be_ me_ co_ H locs 0 0 (MQ be_ (gQ D B0 (fun (r : Option Value) (g : gF) => r = some (.int (iI (pSend S b msg u c v nm h rl d st).2.1)) ∧ ∃ (J : Int → Bool) (a q : Int → Int64), g = mW cy ix (pSend S b msg u c v nm h rl d st).2.2 (mX J a q (pSend S b msg u c v nm h rl d st).1) G)) ([.ref (ix 100), .int (iI b), .int (iI msg), .int (iI u), .int (iI c), .int (iI v), .int (iI nm), .int (iI h), .int (iI (bI rl)), .int (iI d), .int (iI (bI st))] : List Value).toArray s_ 0 0 (fun q : Nat => B0 ≤ q)) (F0 m_ 45 ls [.int (iI (bI (zJ)))]) := by
    intro zJ H locs hzJ hW
    subst hzJ
    refine lv_istore (lv' := [(11, .int (iI (bI (sdA b msg u c nm)))), (0, .ref (ix 100)), (1, .int (iI (b))), (2, .int (iI (msg))), (3, .int (iI (u))), (4, .int (iI (c))), (5, .int (iI (v))), (6, .int (iI (nm))), (7, .int (iI (h))), (8, .int (iI (bI (rl)))), (9, .int (iI (d))), (10, .int (iI (bI (st))))]) hx hb dX12_send_45 hl (by decide) rfl (fun ls hl => ?_)
    have j_2 : ∀ (zJ : Bool) (H : Heap) (locs : List Loc), zJ = (sdB b u v h d) → gW D B0 s_ (mW cy ix S (mX (I) (aM) (qM) (tM)) G) H locs → W p_ l e_ { frames := 5, cells := 0, slots := 0, locals := 117 } s_ m_ ([.ref (ix 100), .int (iI b), .int (iI msg), .int (iI u), .int (iI c), .int (iI v), .int (iI nm), .int (iI h), .int (iI (bI rl)), .int (iI d), .int (iI (bI st))] : List Value).toArray be_ me_ co_ H locs 0 0 (MQ be_ (gQ D B0 (fun (r : Option Value) (g : gF) => r = some (.int (iI (pSend S b msg u c v nm h rl d st).2.1)) ∧ ∃ (J : Int → Bool) (a q : Int → Int64), g = mW cy ix (pSend S b msg u c v nm h rl d st).2.2 (mX J a q (pSend S b msg u c v nm h rl d st).1) G)) ([.ref (ix 100), .int (iI b), .int (iI msg), .int (iI u), .int (iI c), .int (iI v), .int (iI nm), .int (iI h), .int (iI (bI rl)), .int (iI d), .int (iI (bI st))] : List Value).toArray s_ 0 0 (fun q : Nat => B0 ≤ q)) (F0 m_ 90 ls [.int (iI (bI (zJ)))]) := by
      intro zJ H locs hzJ hW
      subst hzJ
      refine lv_istore (lv' := [(12, .int (iI (bI (sdB b u v h d)))), (11, .int (iI (bI (sdA b msg u c nm)))), (0, .ref (ix 100)), (1, .int (iI (b))), (2, .int (iI (msg))), (3, .int (iI (u))), (4, .int (iI (c))), (5, .int (iI (v))), (6, .int (iI (nm))), (7, .int (iI (h))), (8, .int (iI (bI (rl)))), (9, .int (iI (d))), (10, .int (iI (bI (st))))]) hx hb dX12_send_90 hl (by decide) rfl (fun ls hl => ?_)
      have j_3 : ∀ (zJ : Int) (H : Heap) (locs : List Loc), zJ = (sdI S b msg u c nm) → gW D B0 s_ (mW cy ix S (mX (I) (aM) (qM) (tM)) G) H locs → W p_ l e_ { frames := 5, cells := 0, slots := 0, locals := 117 } s_ m_ ([.ref (ix 100), .int (iI b), .int (iI msg), .int (iI u), .int (iI c), .int (iI v), .int (iI nm), .int (iI h), .int (iI (bI rl)), .int (iI d), .int (iI (bI st))] : List Value).toArray be_ me_ co_ H locs 0 0 (MQ be_ (gQ D B0 (fun (r : Option Value) (g : gF) => r = some (.int (iI (pSend S b msg u c v nm h rl d st).2.1)) ∧ ∃ (J : Int → Bool) (a q : Int → Int64), g = mW cy ix (pSend S b msg u c v nm h rl d st).2.2 (mX J a q (pSend S b msg u c v nm h rl d st).1) G)) ([.ref (ix 100), .int (iI b), .int (iI msg), .int (iI u), .int (iI c), .int (iI v), .int (iI nm), .int (iI h), .int (iI (bI rl)), .int (iI d), .int (iI (bI st))] : List Value).toArray s_ 0 0 (fun q : Nat => B0 ≤ q)) (F0 m_ 112 ls [.int (iI (zJ))]) := by
        intro zJ H locs hzJ hW
        subst hzJ
        refine lv_istore (lv' := [(13, .int (iI (sdI S b msg u c nm))), (12, .int (iI (bI (sdB b u v h d)))), (11, .int (iI (bI (sdA b msg u c nm)))), (0, .ref (ix 100)), (1, .int (iI (b))), (2, .int (iI (msg))), (3, .int (iI (u))), (4, .int (iI (c))), (5, .int (iI (v))), (6, .int (iI (nm))), (7, .int (iI (h))), (8, .int (iI (bI (rl)))), (9, .int (iI (d))), (10, .int (iI (bI (st))))]) hx hb dX12_send_112 hl (by decide) rfl (fun ls hl => ?_)
        have hIr := sdI_r hwf b msg u c nm
        obtain ⟨kI, hkI⟩ : ∃ x : Int, x = sdI S b msg u c nm := ⟨_, rfl⟩
        rw [← hkI] at hIr hl
        have j_4 : ∀ (zJ : Bool) (H : Heap) (locs : List Loc), zJ = (sdK S kI u c v nm h rl d st) → gW D B0 s_ (mW cy ix S (mX (I) (aM) (qM) (tM)) G) H locs → W p_ l e_ { frames := 5, cells := 0, slots := 0, locals := 117 } s_ m_ ([.ref (ix 100), .int (iI b), .int (iI msg), .int (iI u), .int (iI c), .int (iI v), .int (iI nm), .int (iI h), .int (iI (bI rl)), .int (iI d), .int (iI (bI st))] : List Value).toArray be_ me_ co_ H locs 0 0 (MQ be_ (gQ D B0 (fun (r : Option Value) (g : gF) => r = some (.int (iI (pSend S b msg u c v nm h rl d st).2.1)) ∧ ∃ (J : Int → Bool) (a q : Int → Int64), g = mW cy ix (pSend S b msg u c v nm h rl d st).2.2 (mX J a q (pSend S b msg u c v nm h rl d st).1) G)) ([.ref (ix 100), .int (iI b), .int (iI msg), .int (iI u), .int (iI c), .int (iI v), .int (iI nm), .int (iI h), .int (iI (bI rl)), .int (iI d), .int (iI (bI st))] : List Value).toArray s_ 0 0 (fun q : Nat => B0 ≤ q)) (F0 m_ 149 ls [.int (iI (bI (zJ)))]) := by
          intro zJ H locs hzJ hW
          subst hzJ
          refine lv_istore (lv' := [(14, .int (iI (bI (sdK S kI u c v nm h rl d st)))), (13, .int (iI (kI))), (12, .int (iI (bI (sdB b u v h d)))), (11, .int (iI (bI (sdA b msg u c nm)))), (0, .ref (ix 100)), (1, .int (iI (b))), (2, .int (iI (msg))), (3, .int (iI (u))), (4, .int (iI (c))), (5, .int (iI (v))), (6, .int (iI (nm))), (7, .int (iI (h))), (8, .int (iI (bI (rl)))), (9, .int (iI (d))), (10, .int (iI (bI (st))))]) hx hb dX12_send_149 hl (by decide) rfl (fun ls hl => ?_)
          refine lv_aload_n hx hb dX12_send_151 rfl (lv_at hl 4 rfl) ?_
          refine lv_iload hx hb dX12_send_152 (lv_at hl 3 rfl) ?_
          refine lv_iload hx hb dX12_send_154 (lv_at hl 2 rfl) ?_
          have j_5 : ∀ (zJ : Bool) (H : Heap) (locs : List Loc), zJ = (sdD S (sdA b msg u c nm) (sdK S kI u c v nm h rl d st) b kI) → gW D B0 s_ (mW cy ix S (mX (I) (aM) (qM) (tM)) G) H locs → W p_ l e_ { frames := 5, cells := 0, slots := 0, locals := 117 } s_ m_ ([.ref (ix 100), .int (iI b), .int (iI msg), .int (iI u), .int (iI c), .int (iI v), .int (iI nm), .int (iI h), .int (iI (bI rl)), .int (iI d), .int (iI (bI st))] : List Value).toArray be_ me_ co_ H locs 0 0 (MQ be_ (gQ D B0 (fun (r : Option Value) (g : gF) => r = some (.int (iI (pSend S b msg u c v nm h rl d st).2.1)) ∧ ∃ (J : Int → Bool) (a q : Int → Int64), g = mW cy ix (pSend S b msg u c v nm h rl d st).2.2 (mX J a q (pSend S b msg u c v nm h rl d st).1) G)) ([.ref (ix 100), .int (iI b), .int (iI msg), .int (iI u), .int (iI c), .int (iI v), .int (iI nm), .int (iI h), .int (iI (bI rl)), .int (iI d), .int (iI (bI st))] : List Value).toArray s_ 0 0 (fun q : Nat => B0 ≤ q)) (F0 m_ 198 ls [.int (iI (bI (zJ))), .int (iI (bI (sdB b u v h d))), .int (iI (bI (sdA b msg u c nm))), .ref (ix 100)]) := by
            intro zJ H locs hzJ hW
            subst hzJ
            refine g_callV (i := 0) (As := [.int (iI (bI (sdA b msg u c nm))), .int (iI (bI (sdB b u v h d))), .int (iI (bI (sdD S (sdA b msg u c nm) (sdK S kI u c v nm h rl d st) b kI)))]) (rest := []) K (c_M_goes (sdA b msg u c nm) (sdB b u v h d) (sdD S (sdA b msg u c nm) (sdK S kI u c v nm h rl d st) b kI)) (cwV 3 hts gM_X12_goes rfl rfl rfl (by decide +kernel) ⟨Nat.le_of_ble_eq_true rfl, Nat.le_of_ble_eq_true rfl⟩) hK hW (mW_0 _ _ _ _ _) rfl rfl hl.1 rfl (Nat.le_of_ble_eq_true rfl) dX12_send_198 ⟨Nat.le_refl _, Nat.le_refl _⟩ (fun v_ f_ H locs hp hW => ?_)
            obtain ⟨hpv, hpe⟩ := hp
            rw [hpe] at hW
            subst hpv
            refine xi_ifb_ne (tgt := 206) hx hb dX12_send_201 (by decide) (fun c_6 => ?_) (fun c_6 => ?_)
            · have hg := c_6
              simp only [sdA, sdB, sIn, Bool.and_eq_true, Bool.or_eq_true, decide_eq_true_eq, Bool.not_eq_true', decide_eq_false_iff_not, and_true, true_and] at hg
              have h80 := wf_8 hwf 0
              refine lv_iload hx hb dX12_send_206 (lv_at hl 0 rfl) ?_
              refine xi_ifb_eq (tgt := 224) hx hb dX12_send_208 (by decide) (fun c_7 => ?_) (fun c_7 => ?_)
              · have hn60 : S.1 8 0 < 60 := by
                  have h5 := hg.2
                  rw [c_7] at h5
                  simp only [sdD, Bool.and_eq_true, Bool.or_eq_true, Bool.and_false, Bool.false_eq_true, or_false, decide_eq_true_eq] at h5
                  omega
                refine lv_aload_n hx hb dX12_send_224 rfl (lv_at hl 4 rfl) ?_
                refine lv_iload_n hx hb dX12_send_225 rfl (lv_at hl 5 rfl) ?_
                refine lv_iload_n hx hb dX12_send_226 rfl (lv_at hl 7 rfl) ?_
                refine lv_iload hx hb dX12_send_227 (lv_at hl 8 rfl) ?_
                refine lv_iload hx hb dX12_send_229 (lv_at hl 9 rfl) ?_
                refine lv_iload hx hb dX12_send_231 (lv_at hl 10 rfl) ?_
                refine lv_iload hx hb dX12_send_233 (lv_at hl 11 rfl) ?_
                refine lv_iload hx hb dX12_send_235 (lv_at hl 12 rfl) ?_
                refine lv_iload hx hb dX12_send_237 (lv_at hl 13 rfl) ?_
                refine lv_iload hx hb dX12_send_239 (lv_at hl 14 rfl) ?_
                refine g_callV (i := 0) (As := [.int (iI (b)), .int (iI (u)), .int (iI (c)), .int (iI (v)), .int (iI (nm)), .int (iI (h)), .int (iI (bI (rl))), .int (iI (d)), .int (iI (bI (st)))]) (rest := []) K (c_M_comes (b) (u) (c) (v) (nm) (h) (rl) (d) (st) ⟨by omega, by omega⟩ ⟨by omega, by omega⟩ ⟨by omega, by omega⟩ ⟨by omega, by omega⟩ ⟨by omega, by omega⟩ ⟨by omega, by omega⟩ ⟨by omega, by omega⟩ hn60 hwf) (cwV 9 hts gM_X12_comes rfl rfl rfl (by decide +kernel) ⟨Nat.le_of_ble_eq_true rfl, Nat.le_of_ble_eq_true rfl⟩) hK hW (mW_0 _ _ _ _ _) rfl rfl hl.1 rfl (Nat.le_of_ble_eq_true rfl) dX12_send_241 ⟨Nat.le_refl _, Nat.le_refl _⟩ (fun v_ f_ H locs hp hW => ?_)
                obtain ⟨hpv, hpe⟩ := hp
                rw [hpe] at hW
                have hpv : v_ = some (.int (iI ((S.1 8 0)))) := hpv
                subst hpv
                refine lv_istore (lv' := [(13, .int (iI ((S.1 8 0)))), (14, .int (iI (bI (sdK S kI u c v nm h rl d st)))), (12, .int (iI (bI (sdB b u v h d)))), (11, .int (iI (bI (sdA b msg u c nm)))), (0, .ref (ix 100)), (1, .int (iI (b))), (2, .int (iI (msg))), (3, .int (iI (u))), (4, .int (iI (c))), (5, .int (iI (v))), (6, .int (iI (nm))), (7, .int (iI (h))), (8, .int (iI (bI (rl)))), (9, .int (iI (d))), (10, .int (iI (bI (st))))]) hx hb dX12_send_244 hl (by decide) rfl (fun ls hl => ?_)
                refine lv_aload_n hx hb dX12_send_246 rfl (lv_at hl 4 rfl) ?_
                refine mr_get K hK hW hin 25 (by decide) lM_message (v := .ref (ix 125)) rfl dX12_send_247 ?_
                refine xi_bipush hx hb dX12_send_250 (by decide) ?_
                refine lv_iload_n hx hb dX12_send_252 rfl (lv_at hl 5 rfl) ?_
                refine xi_imul hx hb dX12_send_253 ?_
                refine lv_iload_n hx hb dX12_send_254 rfl (lv_at hl 6 rfl) ?_
                refine xi_iadd hx hb dX12_send_255 ?_
                refine lv_iload hx hb dX12_send_256 (lv_at hl 0 rfl) ?_
                refine mr_iast K hK hW 25 (by decide) rfl (n := 600) rfl rfl ⟨by omega, by omega⟩ dX12_send_258 (fun H locs hW => ?_)
                refine lv_aload_n hx hb dX12_send_259 rfl (lv_at hl 4 rfl) ?_
                refine g_callV (i := 0) (As := []) (rest := []) K (c_M_runs (okS_pI (okS_come ho hn60 (hs8 hn60) ⟨by omega, by omega⟩ ⟨by omega, by omega⟩ ⟨by omega, by omega⟩ ⟨by omega, by omega⟩ ⟨by omega, by omega⟩ ⟨by omega, by omega⟩ ⟨by omega, by omega⟩) (f := 25) (100 * b + msg) (S.1 8 0) (by decide) ⟨by simp only [rLo]; omega, by simp only [rHi]; omega⟩)) (cwV 0 hts gM_X12_runs rfl rfl rfl (by decide +kernel) ⟨Nat.le_of_ble_eq_true rfl, Nat.le_of_ble_eq_true rfl⟩) hK hW (mW_0 _ _ _ _ _) rfl rfl hl.1 rfl (Nat.le_of_ble_eq_true rfl) dX12_send_260 ⟨Nat.le_refl _, Nat.le_refl _⟩ (fun v_ f_ H locs hp hW => ?_)
                obtain ⟨hpv, J, a, q, hpe⟩ := hp
                rw [hpe] at hW
                subst hpv
                refine lv_istore (lv' := [(15, .int (iI ((sRuns (pI (sCome S b u c v nm h rl d st) 25 ((100 * b) + msg) ((S.1 8 0)))).1))), (13, .int (iI ((S.1 8 0)))), (14, .int (iI (bI (sdK S kI u c v nm h rl d st)))), (12, .int (iI (bI (sdB b u v h d)))), (11, .int (iI (bI (sdA b msg u c nm)))), (0, .ref (ix 100)), (1, .int (iI (b))), (2, .int (iI (msg))), (3, .int (iI (u))), (4, .int (iI (c))), (5, .int (iI (v))), (6, .int (iI (nm))), (7, .int (iI (h))), (8, .int (iI (bI (rl)))), (9, .int (iI (d))), (10, .int (iI (bI (st))))]) hx hb dX12_send_263 hl (by decide) rfl (fun ls hl => ?_)
                refine lv_iload hx hb dX12_send_265 (lv_at hl 1 rfl) ?_
                exact g_iret hx hb hr hW ⟨by rw [pSend, if_pos (by rw [← hkI]; exact c_6), ← hkI, if_neg (by rw [c_7]; decide)], _, _, _, by rw [pSend, if_pos (by rw [← hkI]; exact c_6), ← hkI, if_neg (by rw [c_7]; decide)]; rfl⟩ dX12_send_267 hlk
              · refine lv_aload_n hx hb dX12_send_211 rfl (lv_at hl 4 rfl) ?_
                refine lv_dup hx hb dX12_send_212 rfl ?_
                refine mr_get K hK hW hin 26 (by decide) lM_doubles (v := .int (iI (S.1 26 (0)))) rfl dX12_send_213 ?_
                have w_w_8 := wf_26 hwf 0
                refine xi_iconst hx hb dX12_send_216 ?_
                refine xi_iadd hx hb dX12_send_217 ?_
                refine mr_put K hK hW hin 26 (by decide) lM_doubles rfl rfl (S' := (pI S 26 (0) ((S.1 26 (0)) + 1))) (X' := (mX (I) (aM) (qM) (sGo (sdA b msg u c nm) (sdB b u v h d) (sdD S (sdA b msg u c nm) (sdK S kI u c v nm h rl d st) b kI)))) rfl (fun i hi => mC_sc rfl hi (by decide)) dX12_send_218 (fun H locs hW => ?_)
                refine lv_iload hx hb dX12_send_221 (lv_at hl 1 rfl) ?_
                exact g_iret hx hb hr hW ⟨by rw [pSend, if_pos (by rw [← hkI]; exact c_6), ← hkI, if_pos c_7], _, _, _, by rw [pSend, if_pos (by rw [← hkI]; exact c_6), ← hkI, if_pos c_7]⟩ dX12_send_223 hlk
            · refine xi_iconst hx hb dX12_send_204 ?_
              exact g_iret hx hb hr hW ⟨by rw [pSend, if_neg (by rw [← hkI, c_6]; decide)], _, _, _, by rw [pSend, if_neg (by rw [← hkI, c_6]; decide), hkI]⟩ dX12_send_205 hlk
          refine lv_iload hx hb dX12_send_156 (lv_at hl 3 rfl) ?_
          refine xi_ifb_eq (tgt := 197) hx hb dX12_send_158 (by decide) (fun c_9 => ?_) (fun c_9 => ?_)
          · refine xi_iconst hx hb dX12_send_197 ?_
            exact xi_eq (z' := bI (sdD S (sdA b msg u c nm) (sdK S kI u c v nm h rl d st) b kI)) (bI_f (by simp only [sdD, c_9, decide_true, decide_false, Bool.true_and, Bool.and_true, Bool.false_and, Bool.and_false, Bool.true_or, Bool.or_true, Bool.false_or, Bool.or_false, Bool.not_true, Bool.not_false, eq_self])) (j_5 _ _ _ rfl hW)
          · have hq := c_9
            simp only [sdA, sIn, Bool.and_eq_true, decide_eq_true_eq] at hq
            refine lv_aload_n hx hb dX12_send_161 rfl (lv_at hl 4 rfl) ?_
            refine mr_get K hK hW hin 5 (by decide) lM_isOut (v := .ref (ix 105)) rfl dX12_send_162 ?_
            refine lv_iload_n hx hb dX12_send_165 rfl (lv_at hl 5 rfl) ?_
            refine mr_zald K hK hW 5 (by decide) rfl (n := 6) rfl rfl ⟨by omega, by omega⟩ (v := S.1 5 (b)) rfl dX12_send_166 ?_
            have w_10 := wf_5 hwf (b)
            refine xi_if_ne (tgt := 197) hx hb ⟨by omega, by omega⟩ dX12_send_167 (by decide) (fun c_11 => ?_) (fun c_11 => ?_)
            · refine xi_iconst hx hb dX12_send_197 ?_
              exact xi_eq (z' := bI (sdD S (sdA b msg u c nm) (sdK S kI u c v nm h rl d st) b kI)) (bI_f (by simp only [sdD, c_9, c_11, decide_true, decide_false, Bool.true_and, Bool.and_true, Bool.false_and, Bool.and_false, Bool.true_or, Bool.or_true, Bool.false_or, Bool.or_false, Bool.not_true, Bool.not_false, eq_self])) (j_5 _ _ _ rfl hW)
            · refine lv_iload hx hb dX12_send_170 (lv_at hl 1 rfl) ?_
              refine xi_iconst hx hb dX12_send_172 ?_
              refine xi_icmp_ne (tgt := 188) hx hb ⟨by omega, by omega⟩ ⟨by omega, by omega⟩ dX12_send_173 (by decide) (fun c_12 => ?_) (fun c_12 => ?_)
              · refine lv_iload hx hb dX12_send_188 (lv_at hl 0 rfl) ?_
                refine xi_ifb_eq (tgt := 197) hx hb dX12_send_190 (by decide) (fun c_13 => ?_) (fun c_13 => ?_)
                · refine xi_iconst hx hb dX12_send_197 ?_
                  exact xi_eq (z' := bI (sdD S (sdA b msg u c nm) (sdK S kI u c v nm h rl d st) b kI)) (bI_f (by simp only [sdD, c_9, c_11, c_12, c_13, decide_true, decide_false, Bool.true_and, Bool.and_true, Bool.false_and, Bool.and_false, Bool.true_or, Bool.or_true, Bool.false_or, Bool.or_false, Bool.not_true, Bool.not_false, eq_self])) (j_5 _ _ _ rfl hW)
                · refine xi_iconst hx hb dX12_send_193 ?_
                  refine lv_goto (tgt := 198) hx hb dX12_send_194 (by decide) ?_
                  exact xi_eq (z' := bI (sdD S (sdA b msg u c nm) (sdK S kI u c v nm h rl d st) b kI)) (bI_t (by simp only [sdD, c_9, c_11, c_12, c_13, decide_true, decide_false, Bool.true_and, Bool.and_true, Bool.false_and, Bool.and_false, Bool.true_or, Bool.or_true, Bool.false_or, Bool.or_false, Bool.not_true, Bool.not_false, eq_self])) (j_5 _ _ _ rfl hW)
              · refine lv_aload_n hx hb dX12_send_176 rfl (lv_at hl 4 rfl) ?_
                refine mr_get K hK hW hin 8 (by decide) lM_payments (v := .int (iI (S.1 8 (0)))) rfl dX12_send_177 ?_
                have w_w_14 := wf_8 hwf 0
                refine xi_bipush hx hb dX12_send_180 (by decide) ?_
                refine xi_icmp_ge (tgt := 197) hx hb ⟨by omega, by omega⟩ ⟨by omega, by omega⟩ dX12_send_182 (by decide) (fun c_15 => ?_) (fun c_15 => ?_)
                · refine xi_iconst hx hb dX12_send_197 ?_
                  exact xi_eq (z' := bI (sdD S (sdA b msg u c nm) (sdK S kI u c v nm h rl d st) b kI)) (bI_f (by simp only [sdD, c_9, c_11, c_12, c_15, Int.not_lt.mpr c_15, decide_true, decide_false, Bool.true_and, Bool.and_true, Bool.false_and, Bool.and_false, Bool.true_or, Bool.or_true, Bool.false_or, Bool.or_false, Bool.not_true, Bool.not_false, eq_self])) (j_5 _ _ _ rfl hW)
                · refine lv_goto (tgt := 193) hx hb dX12_send_185 (by decide) ?_
                  refine xi_iconst hx hb dX12_send_193 ?_
                  refine lv_goto (tgt := 198) hx hb dX12_send_194 (by decide) ?_
                  exact xi_eq (z' := bI (sdD S (sdA b msg u c nm) (sdK S kI u c v nm h rl d st) b kI)) (bI_t (by simp only [sdD, c_9, c_11, c_12, c_15, Int.not_le.mpr c_15, decide_true, decide_false, Bool.true_and, Bool.and_true, Bool.false_and, Bool.and_false, Bool.true_or, Bool.or_true, Bool.false_or, Bool.or_false, Bool.not_true, Bool.not_false, eq_self])) (j_5 _ _ _ rfl hW)
        refine lv_iload hx hb dX12_send_114 (lv_at hl 0 rfl) ?_
        refine xi_iconst hx hb dX12_send_116 ?_
        refine xi_icmp_eq (tgt := 148) hx hb ⟨by omega, by omega⟩ ⟨by omega, by omega⟩ dX12_send_117 (by decide) (fun c_16 => ?_) (fun c_16 => ?_)
        · refine xi_iconst hx hb dX12_send_148 ?_
          exact xi_eq (z' := bI (sdK S kI u c v nm h rl d st)) (bI_f (by simp only [sdK, c_16, decide_true, decide_false, Bool.true_and, Bool.and_true, Bool.false_and, Bool.and_false, Bool.true_or, Bool.or_true, Bool.false_or, Bool.or_false, Bool.not_true, Bool.not_false, eq_self])) (j_4 _ _ _ rfl hW)
        · refine lv_aload_n hx hb dX12_send_120 rfl (lv_at hl 3 rfl) ?_
          refine lv_iload hx hb dX12_send_121 (lv_at hl 0 rfl) ?_
          refine lv_iload_n hx hb dX12_send_123 rfl (lv_at hl 6 rfl) ?_
          refine lv_iload hx hb dX12_send_124 (lv_at hl 7 rfl) ?_
          refine lv_iload hx hb dX12_send_126 (lv_at hl 8 rfl) ?_
          refine lv_iload hx hb dX12_send_128 (lv_at hl 9 rfl) ?_
          refine lv_iload hx hb dX12_send_130 (lv_at hl 10 rfl) ?_
          refine lv_iload hx hb dX12_send_132 (lv_at hl 11 rfl) ?_
          refine lv_iload hx hb dX12_send_134 (lv_at hl 12 rfl) ?_
          refine lv_iload hx hb dX12_send_136 (lv_at hl 13 rfl) ?_
          refine g_callV (i := 0) (As := [.int (iI (kI)), .int (iI (u)), .int (iI (c)), .int (iI (v)), .int (iI (nm)), .int (iI (h)), .int (iI (bI (rl))), .int (iI (d)), .int (iI (bI (st)))]) (rest := []) K (c_M_isAlike (kI) (u) (c) (v) (nm) (h) (rl) (d) (st) ⟨by omega, by omega⟩ h_u h_c h_v h_nm h_h h_d hwf) (cwV 9 hts gM_X12_isAlike rfl rfl rfl (by decide +kernel) ⟨Nat.le_of_ble_eq_true rfl, Nat.le_of_ble_eq_true rfl⟩) hK hW (mW_0 _ _ _ _ _) rfl rfl hl.1 rfl (Nat.le_of_ble_eq_true rfl) dX12_send_138 ⟨Nat.le_refl _, Nat.le_refl _⟩ (fun v_ f_ H locs hp hW => ?_)
          obtain ⟨hpv, hpe⟩ := hp
          rw [hpe] at hW
          have hpv : v_ = some (.int (iI (bI (sAlk S (kI) u c v nm h rl d st)))) := hpv
          subst hpv
          refine xi_ifb_eq (tgt := 148) hx hb dX12_send_141 (by decide) (fun c_17 => ?_) (fun c_17 => ?_)
          · refine xi_iconst hx hb dX12_send_148 ?_
            exact xi_eq (z' := bI (sdK S kI u c v nm h rl d st)) (bI_f (by simp only [sdK, c_16, c_17, decide_true, decide_false, Bool.true_and, Bool.and_true, Bool.false_and, Bool.and_false, Bool.true_or, Bool.or_true, Bool.false_or, Bool.or_false, Bool.not_true, Bool.not_false, eq_self])) (j_4 _ _ _ rfl hW)
          · refine xi_iconst hx hb dX12_send_144 ?_
            refine lv_goto (tgt := 149) hx hb dX12_send_145 (by decide) ?_
            exact xi_eq (z' := bI (sdK S kI u c v nm h rl d st)) (bI_t (by simp only [sdK, c_16, c_17, decide_true, decide_false, Bool.true_and, Bool.and_true, Bool.false_and, Bool.and_false, Bool.true_or, Bool.or_true, Bool.false_or, Bool.or_false, Bool.not_true, Bool.not_false, eq_self])) (j_4 _ _ _ rfl hW)
      refine lv_iload hx hb dX12_send_92 (lv_at hl 1 rfl) ?_
      refine xi_ifb_eq (tgt := 111) hx hb dX12_send_94 (by decide) (fun c_18 => ?_) (fun c_18 => ?_)
      · refine xi_iconst hx hb dX12_send_111 ?_
        exact xi_eq (z' := sdI S b msg u c nm) (by simp only [sdI, c_18, decide_true, decide_false, Bool.true_and, Bool.and_true, Bool.false_and, Bool.and_false, Bool.true_or, Bool.or_true, Bool.false_or, Bool.or_false, Bool.not_true, Bool.not_false, eq_self, if_true, if_false, ite_true, ite_false, Bool.false_eq_true, reduceCtorEq, not_false_eq_true]) (j_3 _ _ _ rfl hW)
      · have hq := c_18
        simp only [sdA, sIn, Bool.and_eq_true, decide_eq_true_eq] at hq
        refine lv_aload_n hx hb dX12_send_97 rfl (lv_at hl 2 rfl) ?_
        refine mr_get K hK hW hin 25 (by decide) lM_message (v := .ref (ix 125)) rfl dX12_send_98 ?_
        refine xi_bipush hx hb dX12_send_101 (by decide) ?_
        refine lv_iload_n hx hb dX12_send_103 rfl (lv_at hl 3 rfl) ?_
        refine xi_imul hx hb dX12_send_104 ?_
        refine lv_iload_n hx hb dX12_send_105 rfl (lv_at hl 4 rfl) ?_
        refine xi_iadd hx hb dX12_send_106 ?_
        refine mr_iald K hK hW 25 (by decide) rfl (n := 600) rfl rfl ⟨by omega, by omega⟩ (v := S.1 25 ((100 * b) + msg)) rfl dX12_send_107 ?_
        have w_19 := wf_25 hwf ((100 * b) + msg)
        refine lv_goto (tgt := 112) hx hb dX12_send_108 (by decide) ?_
        exact xi_eq (z' := sdI S b msg u c nm) (by simp only [sdI, c_18, decide_true, decide_false, Bool.true_and, Bool.and_true, Bool.false_and, Bool.and_false, Bool.true_or, Bool.or_true, Bool.false_or, Bool.or_false, Bool.not_true, Bool.not_false, eq_self, if_true, if_false, ite_true, ite_false, Bool.false_eq_true, reduceCtorEq, not_false_eq_true]) (j_3 _ _ _ rfl hW)
    refine lv_iload_n hx hb dX12_send_47 rfl (lv_at hl 2 rfl) ?_
    refine lv_iload_n hx hb dX12_send_48 rfl (lv_at hl 4 rfl) ?_
    refine xi_icmp_eq (tgt := 89) hx hb ⟨by omega, by omega⟩ ⟨by omega, by omega⟩ dX12_send_49 (by decide) (fun c_20 => ?_) (fun c_20 => ?_)
    · refine xi_iconst hx hb dX12_send_89 ?_
      exact xi_eq (z' := bI (sdB b u v h d)) (bI_f (by simp only [sdB, c_20, decide_true, decide_false, Bool.true_and, Bool.and_true, Bool.false_and, Bool.and_false, Bool.true_or, Bool.or_true, Bool.false_or, Bool.or_false, Bool.not_true, Bool.not_false, eq_self])) (j_2 _ _ _ rfl hW)
    · refine lv_iload hx hb dX12_send_52 (lv_at hl 6 rfl) ?_
      refine xi_iconst hx hb dX12_send_54 ?_
      refine xi_ldc hx hb 1000000 (by decide) hown (hts _ kM_192) dX12_send_55 ?_
      refine g_callS (As := [.int (iI (v)), .int (iI (1)), .int (iI (1000000))]) (rest := []) K (c_M_in (v) (1) (1000000) ⟨by omega, by omega⟩ ⟨by omega, by omega⟩ ⟨by omega, by omega⟩) (va_cwS 3 hts gM_X12_in rfl rfl rfl (by decide +kernel) ⟨Nat.le_of_ble_eq_true rfl, Nat.le_of_ble_eq_true rfl⟩) hK hW rfl hl.1 rfl (Nat.le_of_ble_eq_true rfl) dX12_send_57 ⟨Nat.le_refl _, Nat.le_refl _⟩ (fun v_ f_ H locs hp hW => ?_)
      obtain ⟨hpv, hpe⟩ := hp
      rw [hpe] at hW
      subst hpv
      refine xi_ifb_eq (tgt := 89) hx hb dX12_send_60 (by decide) (fun c_21 => ?_) (fun c_21 => ?_)
      · refine xi_iconst hx hb dX12_send_89 ?_
        exact xi_eq (z' := bI (sdB b u v h d)) (bI_f (by simp only [sdB, c_20, c_21, decide_true, decide_false, Bool.true_and, Bool.and_true, Bool.false_and, Bool.and_false, Bool.true_or, Bool.or_true, Bool.false_or, Bool.or_false, Bool.not_true, Bool.not_false, eq_self])) (j_2 _ _ _ rfl hW)
      · refine lv_iload hx hb dX12_send_63 (lv_at hl 8 rfl) ?_
        refine xi_iconst hx hb dX12_send_65 ?_
        refine xi_iconst hx hb dX12_send_66 ?_
        refine g_callS (As := [.int (iI (h)), .int (iI (0)), .int (iI (2))]) (rest := []) K (c_M_in (h) (0) (2) ⟨by omega, by omega⟩ ⟨by omega, by omega⟩ ⟨by omega, by omega⟩) (va_cwS 3 hts gM_X12_in rfl rfl rfl (by decide +kernel) ⟨Nat.le_of_ble_eq_true rfl, Nat.le_of_ble_eq_true rfl⟩) hK hW rfl hl.1 rfl (Nat.le_of_ble_eq_true rfl) dX12_send_67 ⟨Nat.le_refl _, Nat.le_refl _⟩ (fun v_ f_ H locs hp hW => ?_)
        obtain ⟨hpv, hpe⟩ := hp
        rw [hpe] at hW
        subst hpv
        refine xi_ifb_eq (tgt := 89) hx hb dX12_send_70 (by decide) (fun c_22 => ?_) (fun c_22 => ?_)
        · refine xi_iconst hx hb dX12_send_89 ?_
          exact xi_eq (z' := bI (sdB b u v h d)) (bI_f (by simp only [sdB, c_20, c_21, c_22, decide_true, decide_false, Bool.true_and, Bool.and_true, Bool.false_and, Bool.and_false, Bool.true_or, Bool.or_true, Bool.false_or, Bool.or_false, Bool.not_true, Bool.not_false, eq_self])) (j_2 _ _ _ rfl hW)
        · refine lv_iload hx hb dX12_send_73 (lv_at hl 10 rfl) ?_
          refine xi_iconst hx hb dX12_send_75 ?_
          refine xi_sipush hx hb dX12_send_76 (by decide) ?_
          refine g_callS (As := [.int (iI (d)), .int (iI (0)), .int (iI (999))]) (rest := []) K (c_M_in (d) (0) (999) ⟨by omega, by omega⟩ ⟨by omega, by omega⟩ ⟨by omega, by omega⟩) (va_cwS 3 hts gM_X12_in rfl rfl rfl (by decide +kernel) ⟨Nat.le_of_ble_eq_true rfl, Nat.le_of_ble_eq_true rfl⟩) hK hW rfl hl.1 rfl (Nat.le_of_ble_eq_true rfl) dX12_send_79 ⟨Nat.le_refl _, Nat.le_refl _⟩ (fun v_ f_ H locs hp hW => ?_)
          obtain ⟨hpv, hpe⟩ := hp
          rw [hpe] at hW
          subst hpv
          refine xi_ifb_eq (tgt := 89) hx hb dX12_send_82 (by decide) (fun c_23 => ?_) (fun c_23 => ?_)
          · refine xi_iconst hx hb dX12_send_89 ?_
            exact xi_eq (z' := bI (sdB b u v h d)) (bI_f (by simp only [sdB, c_20, c_21, c_22, c_23, decide_true, decide_false, Bool.true_and, Bool.and_true, Bool.false_and, Bool.and_false, Bool.true_or, Bool.or_true, Bool.false_or, Bool.or_false, Bool.not_true, Bool.not_false, eq_self])) (j_2 _ _ _ rfl hW)
          · refine xi_iconst hx hb dX12_send_85 ?_
            refine lv_goto (tgt := 90) hx hb dX12_send_86 (by decide) ?_
            exact xi_eq (z' := bI (sdB b u v h d)) (bI_t (by simp only [sdB, c_20, c_21, c_22, c_23, decide_true, decide_false, Bool.true_and, Bool.and_true, Bool.false_and, Bool.and_false, Bool.true_or, Bool.or_true, Bool.false_or, Bool.or_false, Bool.not_true, Bool.not_false, eq_self])) (j_2 _ _ _ rfl hW)
  refine lv_iload_n hx hb dX12_send_0 rfl (lv_at hl 1 rfl) ?_
  refine g_callS (As := [.int (iI (b))]) (rest := []) K (c_M_isBank (b) ⟨by omega, by omega⟩) (va_cwS 1 hts gM_X12_isBank rfl rfl rfl (by decide +kernel) ⟨Nat.le_of_ble_eq_true rfl, Nat.le_of_ble_eq_true rfl⟩) hK hW rfl hl.1 rfl (Nat.le_of_ble_eq_true rfl) dX12_send_1 ⟨Nat.le_refl _, Nat.le_refl _⟩ (fun v_ f_ H locs hp hW => ?_)
  obtain ⟨hpv, hpe⟩ := hp
  rw [hpe] at hW
  subst hpv
  refine xi_ifb_eq (tgt := 44) hx hb dX12_send_4 (by decide) (fun c_24 => ?_) (fun c_24 => ?_)
  · refine xi_iconst hx hb dX12_send_44 ?_
    exact xi_eq (z' := bI (sdA b msg u c nm)) (bI_f (by simp only [sdA, c_24, decide_true, decide_false, Bool.true_and, Bool.and_true, Bool.false_and, Bool.and_false, Bool.true_or, Bool.or_true, Bool.false_or, Bool.or_false, Bool.not_true, Bool.not_false, eq_self])) (j_1 _ _ _ rfl hW)
  · refine lv_iload_n hx hb dX12_send_7 rfl (lv_at hl 3 rfl) ?_
    refine g_callS (As := [.int (iI (u))]) (rest := []) K (c_M_isBank (u) ⟨by omega, by omega⟩) (va_cwS 1 hts gM_X12_isBank rfl rfl rfl (by decide +kernel) ⟨Nat.le_of_ble_eq_true rfl, Nat.le_of_ble_eq_true rfl⟩) hK hW rfl hl.1 rfl (Nat.le_of_ble_eq_true rfl) dX12_send_8 ⟨Nat.le_refl _, Nat.le_refl _⟩ (fun v_ f_ H locs hp hW => ?_)
    obtain ⟨hpv, hpe⟩ := hp
    rw [hpe] at hW
    subst hpv
    refine xi_ifb_eq (tgt := 44) hx hb dX12_send_11 (by decide) (fun c_25 => ?_) (fun c_25 => ?_)
    · refine xi_iconst hx hb dX12_send_44 ?_
      exact xi_eq (z' := bI (sdA b msg u c nm)) (bI_f (by simp only [sdA, c_24, c_25, decide_true, decide_false, Bool.true_and, Bool.and_true, Bool.false_and, Bool.and_false, Bool.true_or, Bool.or_true, Bool.false_or, Bool.or_false, Bool.not_true, Bool.not_false, eq_self])) (j_1 _ _ _ rfl hW)
    · refine lv_iload_n hx hb dX12_send_14 rfl (lv_at hl 2 rfl) ?_
      refine xi_iconst hx hb dX12_send_15 ?_
      refine xi_bipush hx hb dX12_send_16 (by decide) ?_
      refine g_callS (As := [.int (iI (msg)), .int (iI (0)), .int (iI (99))]) (rest := []) K (c_M_in (msg) (0) (99) ⟨by omega, by omega⟩ ⟨by omega, by omega⟩ ⟨by omega, by omega⟩) (va_cwS 3 hts gM_X12_in rfl rfl rfl (by decide +kernel) ⟨Nat.le_of_ble_eq_true rfl, Nat.le_of_ble_eq_true rfl⟩) hK hW rfl hl.1 rfl (Nat.le_of_ble_eq_true rfl) dX12_send_18 ⟨Nat.le_refl _, Nat.le_refl _⟩ (fun v_ f_ H locs hp hW => ?_)
      obtain ⟨hpv, hpe⟩ := hp
      rw [hpe] at hW
      subst hpv
      refine xi_ifb_eq (tgt := 44) hx hb dX12_send_21 (by decide) (fun c_26 => ?_) (fun c_26 => ?_)
      · refine xi_iconst hx hb dX12_send_44 ?_
        exact xi_eq (z' := bI (sdA b msg u c nm)) (bI_f (by simp only [sdA, c_24, c_25, c_26, decide_true, decide_false, Bool.true_and, Bool.and_true, Bool.false_and, Bool.and_false, Bool.true_or, Bool.or_true, Bool.false_or, Bool.or_false, Bool.not_true, Bool.not_false, eq_self])) (j_1 _ _ _ rfl hW)
      · refine lv_iload hx hb dX12_send_24 (lv_at hl 4 rfl) ?_
        refine g_callS (As := [.int (iI (c))]) (rest := []) K (c_M_isCurrency (c) ⟨by omega, by omega⟩) (va_cwS 1 hts gM_X12_isCurrency rfl rfl rfl (by decide +kernel) ⟨Nat.le_of_ble_eq_true rfl, Nat.le_of_ble_eq_true rfl⟩) hK hW rfl hl.1 rfl (Nat.le_of_ble_eq_true rfl) dX12_send_26 ⟨Nat.le_refl _, Nat.le_refl _⟩ (fun v_ f_ H locs hp hW => ?_)
        obtain ⟨hpv, hpe⟩ := hp
        rw [hpe] at hW
        subst hpv
        refine xi_ifb_eq (tgt := 44) hx hb dX12_send_29 (by decide) (fun c_27 => ?_) (fun c_27 => ?_)
        · refine xi_iconst hx hb dX12_send_44 ?_
          exact xi_eq (z' := bI (sdA b msg u c nm)) (bI_f (by simp only [sdA, c_24, c_25, c_26, c_27, decide_true, decide_false, Bool.true_and, Bool.and_true, Bool.false_and, Bool.and_false, Bool.true_or, Bool.or_true, Bool.false_or, Bool.or_false, Bool.not_true, Bool.not_false, eq_self])) (j_1 _ _ _ rfl hW)
        · refine lv_iload hx hb dX12_send_32 (lv_at hl 6 rfl) ?_
          refine g_callS (As := [.int (iI (nm))]) (rest := []) K (c_M_isName (nm) ⟨by omega, by omega⟩) (va_cwS 1 hts gM_X12_isName rfl rfl rfl (by decide +kernel) ⟨Nat.le_of_ble_eq_true rfl, Nat.le_of_ble_eq_true rfl⟩) hK hW rfl hl.1 rfl (Nat.le_of_ble_eq_true rfl) dX12_send_34 ⟨Nat.le_refl _, Nat.le_refl _⟩ (fun v_ f_ H locs hp hW => ?_)
          obtain ⟨hpv, hpe⟩ := hp
          rw [hpe] at hW
          subst hpv
          refine xi_ifb_eq (tgt := 44) hx hb dX12_send_37 (by decide) (fun c_28 => ?_) (fun c_28 => ?_)
          · refine xi_iconst hx hb dX12_send_44 ?_
            exact xi_eq (z' := bI (sdA b msg u c nm)) (bI_f (by simp only [sdA, c_24, c_25, c_26, c_27, c_28, decide_true, decide_false, Bool.true_and, Bool.and_true, Bool.false_and, Bool.and_false, Bool.true_or, Bool.or_true, Bool.false_or, Bool.or_false, Bool.not_true, Bool.not_false, eq_self])) (j_1 _ _ _ rfl hW)
          · refine xi_iconst hx hb dX12_send_40 ?_
            refine lv_goto (tgt := 45) hx hb dX12_send_41 (by decide) ?_
            exact xi_eq (z' := bI (sdA b msg u c nm)) (bI_t (by simp only [sdA, c_24, c_25, c_26, c_27, c_28, decide_true, decide_false, Bool.true_and, Bool.and_true, Bool.false_and, Bool.and_false, Bool.true_or, Bool.or_true, Bool.false_or, Bool.or_false, Bool.not_true, Bool.not_false, eq_self])) (j_1 _ _ _ rfl hW)
