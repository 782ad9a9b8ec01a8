section XL
variable {p : Program} {l : Launch} {e : Env} {R : Room} {s : State} {m : MethodId} {args : Array Value} {below : List Frame} {meth : Method} {c : Code} {H : Heap} {locs : List Loc} {cells slots : Nat} {Q : State → Prop}
variable {pc : Nat} {ls : Array Slot} {rest : List Value}
theorem xl_eq {z z' : Int64} (h : z = z') (k : W p l e R s m args below meth c H locs cells slots Q (F0 m pc ls (.long z' :: rest))) : W p l e R s m args below meth c H locs cells slots Q (F0 m pc ls (.long z :: rest)) := by
  rw [h]
  exact k
theorem sGo_0 (a b d : Bool) : sGo a b d = 0 ↔ (a && b && d) = true := by
  unfold sGo
  cases a <;> cases b <;> cases d <;> decide
end XL
set_option maxHeartbeats 4000000 in
set_option maxRecDepth 100000 in
theorem c_M_goes {l : Launch} {D : va_G} {cy : Nat → ClassId} {B0 : Nat} {ix : Nat → Nat} {S : ST} {I : Int → Bool} {aM qM : Int → Int64} {tM : Int} {G : gF} (a : Bool) (b : Bool) (d : Bool)  : gM l yX12_goes vX12_goes 0 0 D cy B0 [.ref (ix 100), .int (iI (bI a)), .int (iI (bI b)), .int (iI (bI d))] (mW cy ix S (mX I aM qM tM) G) (fun r g => r = some (.int (iI (bI (a && b && d)))) ∧ g = mW cy ix S (mX I aM qM (sGo a b d)) G) 0 0 := by
  refine g_start (cc := cX12_goes) (maxL := 4) (ret := (some .boolean)) (by decide) rfl (Nat.le_of_ble_eq_true rfl) ?_
  intro p_ e_ s_ m_ be_ me_ co_ ls H locs K hr hlk hnm hK hW hl
  have hin : ∀ w ∈ wsX120, w ∈ vX12_goes := wsM_cls
  obtain ⟨hx, hb, hml, hown, hts⟩ := id K
  have hl : lv_has ls 4 [(0, .ref (ix 100)), (1, .int (iI (bI (a)))), (2, .int (iI (bI (b)))), (3, .int (iI (bI (d))))] := hl
  refine lv_aload_n hx hb dX12_goes_0 rfl (lv_at hl 0 rfl) ?_
  refine lv_iload_n hx hb dX12_goes_1 rfl (lv_at hl 1 rfl) ?_
  refine xi_ifb_ne (tgt := 9) hx hb dX12_goes_2 (by decide) (fun c_1 => ?_) (fun c_1 => ?_)
  · refine lv_iload_n hx hb dX12_goes_9 rfl (lv_at hl 2 rfl) ?_
    refine xi_ifb_ne (tgt := 17) hx hb dX12_goes_10 (by decide) (fun c_2 => ?_) (fun c_2 => ?_)
    · refine lv_iload_n hx hb dX12_goes_17 rfl (lv_at hl 3 rfl) ?_
      refine xi_ifb_ne (tgt := 25) hx hb dX12_goes_18 (by decide) (fun c_3 => ?_) (fun c_3 => ?_)
      · refine xi_iconst hx hb dX12_goes_25 ?_
        refine mr_put K hK hW hin 36 (by decide) lM_thrown rfl rfl (S' := S) (X' := (mX (I) (aM) (qM) (0))) rfl (fun i hi => mC_t hi) dX12_goes_26 (fun H locs hW => ?_)
        refine lv_aload_n hx hb dX12_goes_29 rfl (lv_at hl 0 rfl) ?_
        refine mr_get K hK hW hin 36 (by decide) lM_thrown (v := .int (iI (0))) rfl dX12_goes_30 ?_
        refine xi_if_ne (tgt := 40) hx hb ⟨by omega, by omega⟩ dX12_goes_33 (by decide) (fun c_4 => ?_) (fun c_4 => ?_)
        · exact absurd c_4 (by decide)
        · refine xi_iconst hx hb dX12_goes_36 ?_
          refine lv_goto (tgt := 41) hx hb dX12_goes_37 (by decide) ?_
          exact g_zret hx hb hr (Or.inr rfl) hW ⟨congrArg (fun z => some (Value.int (iI z))) (bI_t (by simp only [c_1, c_2, c_3, decide_true, decide_false, Bool.true_and, Bool.and_true, Bool.false_and, Bool.and_false, Bool.true_or, Bool.or_true, Bool.false_or, Bool.or_false, Bool.not_true, Bool.not_false, eq_self])), by rw [show sGo a b d = 0 by simp only [sGo, c_1, c_2, c_3, decide_true, decide_false, Bool.true_and, Bool.and_true, Bool.false_and, Bool.and_false, Bool.true_or, Bool.or_true, Bool.false_or, Bool.or_false, Bool.not_true, Bool.not_false, eq_self, if_true, if_false, ite_true, ite_false, Bool.false_eq_true, reduceCtorEq, not_false_eq_true]]⟩ dX12_goes_41 hlk
      · refine xi_iconst hx hb dX12_goes_21 ?_
        refine lv_goto (tgt := 26) hx hb dX12_goes_22 (by decide) ?_
        refine mr_put K hK hW hin 36 (by decide) lM_thrown rfl rfl (S' := S) (X' := (mX (I) (aM) (qM) (3))) rfl (fun i hi => mC_t hi) dX12_goes_26 (fun H locs hW => ?_)
        refine lv_aload_n hx hb dX12_goes_29 rfl (lv_at hl 0 rfl) ?_
        refine mr_get K hK hW hin 36 (by decide) lM_thrown (v := .int (iI (3))) rfl dX12_goes_30 ?_
        refine xi_if_ne (tgt := 40) hx hb ⟨by omega, by omega⟩ dX12_goes_33 (by decide) (fun c_5 => ?_) (fun c_5 => ?_)
        · refine xi_iconst hx hb dX12_goes_40 ?_
          exact g_zret hx hb hr (Or.inl rfl) hW ⟨congrArg (fun z => some (Value.int (iI z))) (bI_f (by simp only [c_1, c_2, c_3, decide_true, decide_false, Bool.true_and, Bool.and_true, Bool.false_and, Bool.and_false, Bool.true_or, Bool.or_true, Bool.false_or, Bool.or_false, Bool.not_true, Bool.not_false, eq_self])), by rw [show sGo a b d = 3 by simp only [sGo, c_1, c_2, c_3, decide_true, decide_false, Bool.true_and, Bool.and_true, Bool.false_and, Bool.and_false, Bool.true_or, Bool.or_true, Bool.false_or, Bool.or_false, Bool.not_true, Bool.not_false, eq_self, if_true, if_false, ite_true, ite_false, Bool.false_eq_true, reduceCtorEq, not_false_eq_true]]⟩ dX12_goes_41 hlk
        · exact absurd c_5 (by decide)
    · refine xi_iconst hx hb dX12_goes_13 ?_
      refine lv_goto (tgt := 26) hx hb dX12_goes_14 (by decide) ?_
      refine mr_put K hK hW hin 36 (by decide) lM_thrown rfl rfl (S' := S) (X' := (mX (I) (aM) (qM) (2))) rfl (fun i hi => mC_t hi) dX12_goes_26 (fun H locs hW => ?_)
      refine lv_aload_n hx hb dX12_goes_29 rfl (lv_at hl 0 rfl) ?_
      refine mr_get K hK hW hin 36 (by decide) lM_thrown (v := .int (iI (2))) rfl dX12_goes_30 ?_
      refine xi_if_ne (tgt := 40) hx hb ⟨by omega, by omega⟩ dX12_goes_33 (by decide) (fun c_6 => ?_) (fun c_6 => ?_)
      · refine xi_iconst hx hb dX12_goes_40 ?_
        exact g_zret hx hb hr (Or.inl rfl) hW ⟨congrArg (fun z => some (Value.int (iI z))) (bI_f (by simp only [c_1, c_2, decide_true, decide_false, Bool.true_and, Bool.and_true, Bool.false_and, Bool.and_false, Bool.true_or, Bool.or_true, Bool.false_or, Bool.or_false, Bool.not_true, Bool.not_false, eq_self])), by rw [show sGo a b d = 2 by simp only [sGo, c_1, c_2, decide_true, decide_false, Bool.true_and, Bool.and_true, Bool.false_and, Bool.and_false, Bool.true_or, Bool.or_true, Bool.false_or, Bool.or_false, Bool.not_true, Bool.not_false, eq_self, if_true, if_false, ite_true, ite_false, Bool.false_eq_true, reduceCtorEq, not_false_eq_true]]⟩ dX12_goes_41 hlk
      · exact absurd c_6 (by decide)
  · refine xi_iconst hx hb dX12_goes_5 ?_
    refine lv_goto (tgt := 26) hx hb dX12_goes_6 (by decide) ?_
    refine mr_put K hK hW hin 36 (by decide) lM_thrown rfl rfl (S' := S) (X' := (mX (I) (aM) (qM) (1))) rfl (fun i hi => mC_t hi) dX12_goes_26 (fun H locs hW => ?_)
    refine lv_aload_n hx hb dX12_goes_29 rfl (lv_at hl 0 rfl) ?_
    refine mr_get K hK hW hin 36 (by decide) lM_thrown (v := .int (iI (1))) rfl dX12_goes_30 ?_
    refine xi_if_ne (tgt := 40) hx hb ⟨by omega, by omega⟩ dX12_goes_33 (by decide) (fun c_7 => ?_) (fun c_7 => ?_)
    · refine xi_iconst hx hb dX12_goes_40 ?_
      exact g_zret hx hb hr (Or.inl rfl) hW ⟨congrArg (fun z => some (Value.int (iI z))) (bI_f (by simp only [c_1, decide_true, decide_false, Bool.true_and, Bool.and_true, Bool.false_and, Bool.and_false, Bool.true_or, Bool.or_true, Bool.false_or, Bool.or_false, Bool.not_true, Bool.not_false, eq_self])), by rw [show sGo a b d = 1 by simp only [sGo, c_1, decide_true, decide_false, Bool.true_and, Bool.and_true, Bool.false_and, Bool.and_false, Bool.true_or, Bool.or_true, Bool.false_or, Bool.or_false, Bool.not_true, Bool.not_false, eq_self, if_true, if_false, ite_true, ite_false, Bool.false_eq_true, reduceCtorEq, not_false_eq_true]]⟩ dX12_goes_41 hlk
    · exact absurd c_7 (by decide)
set_option maxHeartbeats 4000000 in
set_option maxRecDepth 100000 in
theorem c_M_cutsOff {l : Launch} {D : va_G} {cy : Nat → ClassId} {B0 : Nat} {ix : Nat → Nat} {S : ST} {I : Int → Bool} {aM qM : Int → Int64} {tM : Int} {G : gF} (c : Int) (hc : 0 ≤ c ∧ c ≤ 2) (ho : okS S) : gM l yX12_cutsOff vX12_cutsOff 4 94 D cy B0 [.ref (ix 100), .int (iI c)] (mW cy ix S (mX I aM qM tM) G) (fun r g => r = some (.int (iI (sCut S c).1)) ∧ ∃ (J : Int → Bool) (a q : Int → Int64), g = mW cy ix (sCut S c).2 (mX J a q tM) G) 0 0 := by
  refine g_start (cc := cX12_cutsOff) (maxL := 3) (ret := (some .int)) (by decide) rfl (Nat.le_of_ble_eq_true rfl) ?_
  intro p_ e_ s_ m_ be_ me_ co_ ls H locs K hr hlk hnm hK hW hl
  have hin : ∀ w ∈ wsX120, w ∈ vX12_cutsOff := wsM_cls
  obtain ⟨hx, hb, hml, hown, hts⟩ := id K
  have hl : lv_has ls 3 [(0, .ref (ix 100)), (1, .int (iI (c)))] := hl
  have hwf : wf S := ho.1
  refine xi_iconst hx hb dX12_cutsOff_0 ?_
  refine lv_istore_n (lv' := [(2, .int (iI (0))), (0, .ref (ix 100)), (1, .int (iI (c)))]) hx hb dX12_cutsOff_1 rfl hl (by decide) rfl (fun ls hl => ?_)
  refine lp_w2 (Wg := fun (H : Heap) (locs : List Loc) (ls : Array Slot) => W p_ l e_ { frames := 4, cells := 0, slots := 0, locals := 94 } s_ m_ ([.ref (ix 100), .int (iI c)] : List Value).toArray be_ me_ co_ H locs 0 0 (MQ be_ (gQ D B0 (fun (r : Option Value) (g : gF) => r = some (.int (iI (sCut S c).1)) ∧ ∃ (J : Int → Bool) (a q : Int → Int64), g = mW cy ix (sCut S c).2 (mX J a q tM) G)) ([.ref (ix 100), .int (iI c)] : List Value).toArray s_ 0 0 (fun q : Nat => B0 ≤ q)) (F0 m_ 2 ls [])) (fun (k : Int) (J : Int → Bool) (H : Heap) (locs : List Loc) (ls : Array Slot) => ((0 ≤ k ∧ k ≤ 60) ∧ ∀ j : Int, 0 ≤ j → j < k → J j = netI S c j) ∧ gW D B0 s_ (mW cy ix S (mX (J) (aM) (qM) (tM)) G) H locs ∧ lv_has ls 3 [(2, .int (iI (k))), (1, .int (iI (c))), (0, .ref (ix 100))]) (fun (k : Int) (J : Int → Bool) => (60 - k).toNat) (fun k J H locs ls hI ih_lp_1 => ?_) (0) (I) _ _ _ ⟨⟨by decide, fun j h1 h2 => by omega⟩, hW, lv_sub hl [0, 2, 1] rfl⟩
  obtain ⟨hI_lp_1, hW, hl⟩ := hI
  obtain ⟨hk, hJ⟩ := hI_lp_1
  have h80 := wf_8 ho.1 0
  refine lv_iload_n hx hb dX12_cutsOff_2 rfl (lv_at hl 0 rfl) ?_
  refine xi_bipush hx hb dX12_cutsOff_3 (by decide) ?_
  refine xi_icmp_ge (tgt := 81) hx hb ⟨by omega, by omega⟩ ⟨by omega, by omega⟩ dX12_cutsOff_5 (by decide) (fun c_2 => ?_) (fun c_2 => ?_)
  · have hJ60 : ∀ j : Int, 0 ≤ j → j < nP S → J j = netI S c j := fun j h1 h2 => hJ j h1 (by have := nP_le ho.1; omega)
    have hm : ∀ j : Int, 0 ≤ j → j < S.1 8 0 → J j = true → S.1 18 j ≠ 4 := fun j h1 h2 h3 => by
      rw [hJ j h1 (by omega)] at h3
      simp only [netI, Bool.and_eq_true, decide_eq_true_eq] at h3
      rw [h3.1.1.1.2]; decide
    refine lv_aload_n hx hb dX12_cutsOff_81 rfl (lv_at hl 2 rfl) ?_
    refine lv_iload_n hx hb dX12_cutsOff_82 rfl (lv_at hl 1 rfl) ?_
    refine xi_iconst hx hb dX12_cutsOff_83 ?_
    refine g_callV (i := 0) (As := [.int (iI (c)), .int (iI (0))]) (rest := []) K (c_M_reduces (c) false hc ho hm) (cwV 2 hts gM_X12_reduces rfl rfl rfl (by decide +kernel) ⟨Nat.le_of_ble_eq_true rfl, Nat.le_of_ble_eq_true rfl⟩) hK hW (mW_0 _ _ _ _ _) rfl rfl hl.1 rfl (Nat.le_of_ble_eq_true rfl) dX12_cutsOff_84 ⟨Nat.le_refl _, Nat.le_refl _⟩ (fun v_ f_ H locs hp hW => ?_)
    obtain ⟨hpv, J2, a2, q2, hpe⟩ := hp
    rw [sRedS_congr (J := netI S c) hc hJ60] at hpv hpe
    rw [hpe] at hW
    subst hpv
    exact g_iret hx hb hr hW ⟨rfl, _, _, _, rfl⟩ dX12_cutsOff_87 hlk
  · refine lv_aload_n hx hb dX12_cutsOff_8 rfl (lv_at hl 2 rfl) ?_
    refine mr_get K hK hW hin 33 (by decide) lM_isIn (v := .ref (ix 133)) rfl dX12_cutsOff_9 ?_
    refine lv_iload_n hx hb dX12_cutsOff_12 rfl (lv_at hl 0 rfl) ?_
    have j_3 : ∀ (zJ : Bool) (H : Heap) (locs : List Loc), zJ = (netI S c k) → gW D B0 s_ (mW cy ix S (mX (J) (aM) (qM) (tM)) G) H locs → W p_ l e_ { frames := 4, cells := 0, slots := 0, locals := 94 } s_ m_ ([.ref (ix 100), .int (iI c)] : List Value).toArray be_ me_ co_ H locs 0 0 (MQ be_ (gQ D B0 (fun (r : Option Value) (g : gF) => r = some (.int (iI (sCut S c).1)) ∧ ∃ (J : Int → Bool) (a q : Int → Int64), g = mW cy ix (sCut S c).2 (mX J a q tM) G)) ([.ref (ix 100), .int (iI c)] : List Value).toArray s_ 0 0 (fun q : Nat => B0 ≤ q)) (F0 m_ 74 ls [.int (iI (bI (zJ))), .int (iI (k)), .ref (ix 133)]) := by
      intro zJ H locs hzJ hW
      subst hzJ
      refine mr_zastI K hK hW rfl (v := netI S c k) ⟨by omega, by omega⟩ dX12_cutsOff_74 (fun H locs hW => ?_)
      refine xi_iinc (lv' := [(2, .int (iI (k + 1))), (1, .int (iI (c))), (0, .ref (ix 100))]) hx hb dX12_cutsOff_75 hl (k := 0) rfl (by decide) rfl (fun ls hl => ?_)
      refine lv_goto (tgt := 2) hx hb dX12_cutsOff_78 (by decide) ?_
      exact ih_lp_1 (k + 1) (iup J (k) (netI S c k)) _ _ _ (by first | omega | (dsimp only; omega)) ⟨⟨⟨by omega, by omega⟩, fun j h1 h2 => by
        by_cases h : j = k
        · rw [h]; exact iup_s _ _ _
        · rw [iup_n _ _ h]; exact hJ j h1 (by omega)⟩, hW, lv_sub hl [0, 1, 2] rfl⟩
    refine lv_iload_n hx hb dX12_cutsOff_13 rfl (lv_at hl 0 rfl) ?_
    refine lv_aload_n hx hb dX12_cutsOff_14 rfl (lv_at hl 2 rfl) ?_
    refine mr_get K hK hW hin 8 (by decide) lM_payments (v := .int (iI (S.1 8 (0)))) rfl dX12_cutsOff_15 ?_
    have w_w_4 := wf_8 hwf 0
    refine xi_icmp_ge (tgt := 73) hx hb ⟨by omega, by omega⟩ ⟨by omega, by omega⟩ dX12_cutsOff_18 (by decide) (fun c_5 => ?_) (fun c_5 => ?_)
    · refine xi_iconst hx hb dX12_cutsOff_73 ?_
      exact xi_eq (z' := bI (netI S c k)) (bI_f (by simp only [netI, c_2, Int.not_le.mpr c_2, c_5, Int.not_lt.mpr c_5, decide_true, decide_false, Bool.true_and, Bool.and_true, Bool.false_and, Bool.and_false, Bool.true_or, Bool.or_true, Bool.false_or, Bool.or_false, Bool.not_true, Bool.not_false, eq_self])) (j_3 _ _ _ rfl hW)
    · refine lv_aload_n hx hb dX12_cutsOff_21 rfl (lv_at hl 2 rfl) ?_
      refine mr_get K hK hW hin 18 (by decide) lM_state (v := .ref (ix 118)) rfl dX12_cutsOff_22 ?_
      refine lv_iload_n hx hb dX12_cutsOff_25 rfl (lv_at hl 0 rfl) ?_
      refine mr_iald K hK hW 18 (by decide) rfl (n := 60) rfl rfl ⟨by omega, by omega⟩ (v := S.1 18 (k)) rfl dX12_cutsOff_26 ?_
      have w_6 := wf_18 hwf (k)
      refine xi_iconst hx hb dX12_cutsOff_27 ?_
      refine xi_icmp_ne (tgt := 73) hx hb ⟨by omega, by omega⟩ ⟨by omega, by omega⟩ dX12_cutsOff_28 (by decide) (fun c_7 => ?_) (fun c_7 => ?_)
      · refine xi_iconst hx hb dX12_cutsOff_73 ?_
        exact xi_eq (z' := bI (netI S c k)) (bI_f (by simp only [netI, c_2, Int.not_le.mpr c_2, c_5, Int.not_le.mpr c_5, c_7, decide_true, decide_false, Bool.true_and, Bool.and_true, Bool.false_and, Bool.and_false, Bool.true_or, Bool.or_true, Bool.false_or, Bool.or_false, Bool.not_true, Bool.not_false, eq_self])) (j_3 _ _ _ rfl hW)
      · refine lv_aload_n hx hb dX12_cutsOff_31 rfl (lv_at hl 2 rfl) ?_
        refine mr_get K hK hW hin 11 (by decide) lM_currency (v := .ref (ix 111)) rfl dX12_cutsOff_32 ?_
        refine lv_iload_n hx hb dX12_cutsOff_35 rfl (lv_at hl 0 rfl) ?_
        refine mr_iald K hK hW 11 (by decide) rfl (n := 60) rfl rfl ⟨by omega, by omega⟩ (v := S.1 11 (k)) rfl dX12_cutsOff_36 ?_
        have w_8 := wf_11 hwf (k)
        refine lv_iload_n hx hb dX12_cutsOff_37 rfl (lv_at hl 1 rfl) ?_
        refine xi_icmp_ne (tgt := 73) hx hb ⟨by omega, by omega⟩ ⟨by omega, by omega⟩ dX12_cutsOff_38 (by decide) (fun c_9 => ?_) (fun c_9 => ?_)
        · refine xi_iconst hx hb dX12_cutsOff_73 ?_
          exact xi_eq (z' := bI (netI S c k)) (bI_f (by simp only [netI, c_2, Int.not_le.mpr c_2, c_5, Int.not_le.mpr c_5, c_7, c_9, decide_true, decide_false, Bool.true_and, Bool.and_true, Bool.false_and, Bool.and_false, Bool.true_or, Bool.or_true, Bool.false_or, Bool.or_false, Bool.not_true, Bool.not_false, eq_self])) (j_3 _ _ _ rfl hW)
        · refine lv_aload_n hx hb dX12_cutsOff_41 rfl (lv_at hl 2 rfl) ?_
          refine mr_get K hK hW hin 5 (by decide) lM_isOut (v := .ref (ix 105)) rfl dX12_cutsOff_42 ?_
          refine lv_aload_n hx hb dX12_cutsOff_45 rfl (lv_at hl 2 rfl) ?_
          refine mr_get K hK hW hin 9 (by decide) lM_from (v := .ref (ix 109)) rfl dX12_cutsOff_46 ?_
          refine lv_iload_n hx hb dX12_cutsOff_49 rfl (lv_at hl 0 rfl) ?_
          refine mr_iald K hK hW 9 (by decide) rfl (n := 60) rfl rfl ⟨by omega, by omega⟩ (v := S.1 9 (k)) rfl dX12_cutsOff_50 ?_
          have w_10 := wf_9 hwf (k)
          refine mr_zald K hK hW 5 (by decide) rfl (n := 6) rfl rfl ⟨by omega, by omega⟩ (v := S.1 5 (S.1 9 (k))) rfl dX12_cutsOff_51 ?_
          have w_11 := wf_5 hwf (S.1 9 (k))
          refine xi_if_ne (tgt := 73) hx hb ⟨by omega, by omega⟩ dX12_cutsOff_52 (by decide) (fun c_12 => ?_) (fun c_12 => ?_)
          · refine xi_iconst hx hb dX12_cutsOff_73 ?_
            exact xi_eq (z' := bI (netI S c k)) (bI_f (by simp only [netI, c_2, Int.not_le.mpr c_2, c_5, Int.not_le.mpr c_5, c_7, c_9, c_12, decide_true, decide_false, Bool.true_and, Bool.and_true, Bool.false_and, Bool.and_false, Bool.true_or, Bool.or_true, Bool.false_or, Bool.or_false, Bool.not_true, Bool.not_false, eq_self])) (j_3 _ _ _ rfl hW)
          · refine lv_aload_n hx hb dX12_cutsOff_55 rfl (lv_at hl 2 rfl) ?_
            refine mr_get K hK hW hin 5 (by decide) lM_isOut (v := .ref (ix 105)) rfl dX12_cutsOff_56 ?_
            refine lv_aload_n hx hb dX12_cutsOff_59 rfl (lv_at hl 2 rfl) ?_
            refine mr_get K hK hW hin 10 (by decide) lM_to (v := .ref (ix 110)) rfl dX12_cutsOff_60 ?_
            refine lv_iload_n hx hb dX12_cutsOff_63 rfl (lv_at hl 0 rfl) ?_
            refine mr_iald K hK hW 10 (by decide) rfl (n := 60) rfl rfl ⟨by omega, by omega⟩ (v := S.1 10 (k)) rfl dX12_cutsOff_64 ?_
            have w_13 := wf_10 hwf (k)
            refine mr_zald K hK hW 5 (by decide) rfl (n := 6) rfl rfl ⟨by omega, by omega⟩ (v := S.1 5 (S.1 10 (k))) rfl dX12_cutsOff_65 ?_
            have w_14 := wf_5 hwf (S.1 10 (k))
            refine xi_if_ne (tgt := 73) hx hb ⟨by omega, by omega⟩ dX12_cutsOff_66 (by decide) (fun c_15 => ?_) (fun c_15 => ?_)
            · refine xi_iconst hx hb dX12_cutsOff_73 ?_
              exact xi_eq (z' := bI (netI S c k)) (bI_f (by simp only [netI, c_2, Int.not_le.mpr c_2, c_5, Int.not_le.mpr c_5, c_7, c_9, c_12, c_15, decide_true, decide_false, Bool.true_and, Bool.and_true, Bool.false_and, Bool.and_false, Bool.true_or, Bool.or_true, Bool.false_or, Bool.or_false, Bool.not_true, Bool.not_false, eq_self])) (j_3 _ _ _ rfl hW)
            · refine xi_iconst hx hb dX12_cutsOff_69 ?_
              refine lv_goto (tgt := 74) hx hb dX12_cutsOff_70 (by decide) ?_
              exact xi_eq (z' := bI (netI S c k)) (bI_t (by simp only [netI, c_2, Int.not_le.mpr c_2, c_5, Int.not_le.mpr c_5, c_7, c_9, c_12, c_15, decide_true, decide_false, Bool.true_and, Bool.and_true, Bool.false_and, Bool.and_false, Bool.true_or, Bool.or_true, Bool.false_or, Bool.or_false, Bool.not_true, Bool.not_false, eq_self])) (j_3 _ _ _ rfl hW)
theorem sFee_s (S : ST) (b c : Int) (n : Nat) : sFee S b c (n + 1) = sFee S b c n + feK S b c n := rfl
set_option maxHeartbeats 4000000 in
set_option maxRecDepth 100000 in
theorem c_M_charges {l : Launch} {D : va_G} {cy : Nat → ClassId} {B0 : Nat} {ix : Nat → Nat} {S : ST} {I : Int → Bool} {aM qM : Int → Int64} {tM : Int} {G : gF} (b : Int) (c : Int) (hb0 : 0 ≤ b ∧ b ≤ 5) (hc : 0 ≤ c ∧ c ≤ 2) (ho : okS S) (he : S.1 31 0 + cNF S ≤ 28990) : gM l yX12_charges vX12_charges 2 47 D cy B0 [.ref (ix 100), .int (iI b), .int (iI c)] (mW cy ix S (mX I aM qM tM) G) (fun r g => r = none ∧ g = mW cy ix (sChg S b c) (mX I aM qM tM) G) 0 0 := by
  refine g_start (cc := cX12_charges) (maxL := 8) (ret := none) (by decide) rfl (Nat.le_of_ble_eq_true rfl) ?_
  intro p_ e_ s_ m_ be_ me_ co_ ls H locs K hr hlk hnm hK hW hl
  have hin : ∀ w ∈ wsX120, w ∈ vX12_charges := wsM_cls
  obtain ⟨hx, hb, hml, hown, hts⟩ := id K
  have hl : lv_has ls 8 [(0, .ref (ix 100)), (1, .int (iI (b))), (2, .int (iI (c)))] := hl
  have hwf : wf S := ho.1
  have j_1 : ∀ (zJ : Int64) (H : Heap) (locs : List Loc), zJ = (sBel S b c) → gW D B0 s_ (mW cy ix S (mX (I) (aM) (qM) (tM)) G) H locs → W p_ l e_ { frames := 2, cells := 0, slots := 0, locals := 47 } s_ m_ ([.ref (ix 100), .int (iI b), .int (iI c)] : List Value).toArray be_ me_ co_ H locs 0 0 (MQ be_ (gQ D B0 (fun (r : Option Value) (g : gF) => r = none ∧ g = mW cy ix (sChg S b c) (mX I aM qM tM) G)) ([.ref (ix 100), .int (iI b), .int (iI c)] : List Value).toArray s_ 0 0 (fun q : Nat => B0 ≤ q)) (F0 m_ 30 ls [.long (zJ)]) := by
    intro zJ H locs hzJ hW
    subst hzJ
    refine lv_lstore_n (lv' := [(3, .long (sBel S b c)), (0, .ref (ix 100)), (1, .int (iI (b))), (2, .int (iI (c)))]) hx hb dX12_charges_30 rfl hl (by decide) rfl (fun ls hl => ?_)
    refine xi_iconst hx hb dX12_charges_31 ?_
    refine lv_istore (lv' := [(5, .int (iI (0))), (3, .long (sBel S b c)), (0, .ref (ix 100)), (1, .int (iI (b))), (2, .int (iI (c)))]) hx hb dX12_charges_32 hl (by decide) rfl (fun ls hl => ?_)
    refine xi_iconst hx hb dX12_charges_34 ?_
    refine lv_istore (lv' := [(6, .int (iI (0))), (5, .int (iI (0))), (3, .long (sBel S b c)), (0, .ref (ix 100)), (1, .int (iI (b))), (2, .int (iI (c)))]) hx hb dX12_charges_35 hl (by decide) rfl (fun ls hl => ?_)
    refine lp_w1 (Wg := fun (H : Heap) (locs : List Loc) (ls : Array Slot) => W p_ l e_ { frames := 2, cells := 0, slots := 0, locals := 47 } s_ m_ ([.ref (ix 100), .int (iI b), .int (iI c)] : List Value).toArray be_ me_ co_ H locs 0 0 (MQ be_ (gQ D B0 (fun (r : Option Value) (g : gF) => r = none ∧ g = mW cy ix (sChg S b c) (mX I aM qM tM) G)) ([.ref (ix 100), .int (iI b), .int (iI c)] : List Value).toArray s_ 0 0 (fun q : Nat => B0 ≤ q)) (F0 m_ 37 ls [])) (fun (k : Int) (H : Heap) (locs : List Loc) (ls : Array Slot) => (0 ≤ k ∧ k ≤ S.1 8 0) ∧ gW D B0 s_ (mW cy ix S (mX (I) (aM) (qM) (tM)) G) H locs ∧ lv_has ls 8 [(6, .int (iI (k))), (5, .int (iI (sFee S b c k.toNat))), (3, .long (sBel S b c)), (2, .int (iI (c))), (1, .int (iI (b))), (0, .ref (ix 100))]) (fun (k : Int) => (60 - k).toNat) (fun k H locs ls hI ih_lp_2 => ?_) (0) _ _ _ ⟨⟨by decide, (wf_8 hwf 0).1⟩, hW, lv_sub hl [0, 1, 2, 5, 4, 3] rfl⟩
    obtain ⟨hI_lp_2, hW, hl⟩ := hI
    refine lv_iload hx hb dX12_charges_37 (lv_at hl 0 rfl) ?_
    refine lv_aload_n hx hb dX12_charges_39 rfl (lv_at hl 5 rfl) ?_
    refine mr_get K hK hW hin 8 (by decide) lM_payments (v := .int (iI (S.1 8 (0)))) rfl dX12_charges_40 ?_
    have w_w_3 := wf_8 hwf 0
    refine xi_icmp_ge (tgt := 135) hx hb ⟨by omega, by omega⟩ ⟨by omega, by omega⟩ dX12_charges_43 (by decide) (fun c_4 => ?_) (fun c_4 => ?_)
    · have hke : k.toNat = nP S := by unfold nP; omega
      rw [hke] at hl
      have hfr := sFee_r S b c (nP S)
      have hn60 := nP_le hwf
      refine lv_lload_n hx hb dX12_charges_135 rfl (lv_at hl 2 rfl) ?_
      refine lv_ldc2 (v := 99) hx hb hown (hts _ kM_228) dX12_charges_136 ?_
      refine lv_ladd hx hb dX12_charges_139 ?_
      refine lv_ldc2 (v := 100) hx hb hown (hts _ kM_230) dX12_charges_140 ?_
      refine lv_ldiv hx hb dX12_charges_143 (by decide) ?_
      refine lv_lstore (lv' := [(6, .long (((sBel S b c) + 99) / 100)), (5, .int (iI (sFee S b c (nP S)))), (3, .long (sBel S b c)), (2, .int (iI (c))), (1, .int (iI (b))), (0, .ref (ix 100))]) hx hb dX12_charges_144 hl (by decide) rfl (fun ls hl => ?_)
      refine lv_iload hx hb dX12_charges_146 (lv_at hl 1 rfl) ?_
      refine xi_if_le (tgt := 163) hx hb ⟨by omega, by omega⟩ dX12_charges_148 (by decide) (fun c_5 => ?_) (fun c_5 => ?_)
      · refine lv_lload hx hb dX12_charges_163 (lv_at hl 0 rfl) ?_
        refine lv_lconst (v := 0) hx hb dX12_charges_165 (by decide) ?_
        refine xi_lcmp_le (tgt := 181) hx hb dX12_charges_166 dX12_charges_167 (by decide) (fun c_6 => ?_) (fun c_6 => ?_)
        · exact g_vret hx hb hr hW ⟨rfl, by unfold sChg sCh1; rw [if_neg (show ¬ 0 < sInt S b c from c_6)]; rw [if_neg (show ¬ 0 < sFee S b c (nP S) by omega)]; try rfl⟩ dX12_charges_181 hlk
        · refine lv_aload_n hx hb dX12_charges_170 rfl (lv_at hl 5 rfl) ?_
          refine lv_iload_n hx hb dX12_charges_171 rfl (lv_at hl 4 rfl) ?_
          refine xi_bipush hx hb dX12_charges_172 (by decide) ?_
          refine lv_iload_n hx hb dX12_charges_174 rfl (lv_at hl 3 rfl) ?_
          refine lv_lload hx hb dX12_charges_175 (lv_at hl 0 rfl) ?_
          refine xi_iconst hx hb dX12_charges_177 ?_
          refine g_callV (i := 0) (As := [.int (iI (b)), .int (iI (6)), .int (iI (c)), .long (((sBel S b c) + 99) / 100), .int (iI ((-1)))]) (rest := []) K (c_M_books (b) (6) (c) (((sBel S b c) + 99) / 100) ((-1)) ⟨by omega, by omega⟩ ⟨by omega, by omega⟩ ⟨by omega, by omega⟩ ⟨by omega, by omega⟩ ho.1) (cwV 5 hts gM_X12_books rfl rfl rfl (by decide +kernel) ⟨Nat.le_of_ble_eq_true rfl, Nat.le_of_ble_eq_true rfl⟩) hK hW (mW_0 _ _ _ _ _) rfl rfl hl.1 rfl (Nat.le_of_ble_eq_true rfl) dX12_charges_178 ⟨Nat.le_refl _, Nat.le_refl _⟩ (fun v_ f_ H locs hp hW => ?_)
          obtain ⟨hpv, hpe⟩ := hp
          rw [hpe] at hW
          subst hpv
          exact g_vret hx hb hr hW ⟨rfl, by unfold sChg sCh1; rw [if_pos (show 0 < sInt S b c from c_6)]; rw [if_neg (show ¬ 0 < sFee S b c (nP S) by omega)]; try rfl⟩ dX12_charges_181 hlk
      · refine lv_aload_n hx hb dX12_charges_151 rfl (lv_at hl 5 rfl) ?_
        refine lv_iload_n hx hb dX12_charges_152 rfl (lv_at hl 4 rfl) ?_
        refine xi_bipush hx hb dX12_charges_153 (by decide) ?_
        refine lv_iload_n hx hb dX12_charges_155 rfl (lv_at hl 3 rfl) ?_
        refine lv_iload hx hb dX12_charges_156 (lv_at hl 1 rfl) ?_
        refine xi_i2l hx hb ⟨by omega, by omega⟩ dX12_charges_158 ?_
        refine xi_iconst hx hb dX12_charges_159 ?_
        refine g_callV (i := 0) (As := [.int (iI (b)), .int (iI (6)), .int (iI (c)), .long (Int64.ofInt (sFee S b c (nP S))), .int (iI ((-1)))]) (rest := []) K (c_M_books (b) (6) (c) (Int64.ofInt (sFee S b c (nP S))) ((-1)) ⟨by omega, by omega⟩ ⟨by omega, by omega⟩ ⟨by omega, by omega⟩ ⟨by omega, by omega⟩ ho.1) (cwV 5 hts gM_X12_books rfl rfl rfl (by decide +kernel) ⟨Nat.le_of_ble_eq_true rfl, Nat.le_of_ble_eq_true rfl⟩) hK hW (mW_0 _ _ _ _ _) rfl rfl hl.1 rfl (Nat.le_of_ble_eq_true rfl) dX12_charges_160 ⟨Nat.le_refl _, Nat.le_refl _⟩ (fun v_ f_ H locs hp hW => ?_)
        obtain ⟨hpv, hpe⟩ := hp
        rw [hpe] at hW
        subst hpv
        refine lv_lload hx hb dX12_charges_163 (lv_at hl 0 rfl) ?_
        refine lv_lconst (v := 0) hx hb dX12_charges_165 (by decide) ?_
        refine xi_lcmp_le (tgt := 181) hx hb dX12_charges_166 dX12_charges_167 (by decide) (fun c_7 => ?_) (fun c_7 => ?_)
        · exact g_vret hx hb hr hW ⟨rfl, by unfold sChg sCh1; rw [if_neg (show ¬ 0 < sInt S b c from c_7)]; rw [if_pos c_5]; try rfl⟩ dX12_charges_181 hlk
        · refine lv_aload_n hx hb dX12_charges_170 rfl (lv_at hl 5 rfl) ?_
          refine lv_iload_n hx hb dX12_charges_171 rfl (lv_at hl 4 rfl) ?_
          refine xi_bipush hx hb dX12_charges_172 (by decide) ?_
          refine lv_iload_n hx hb dX12_charges_174 rfl (lv_at hl 3 rfl) ?_
          refine lv_lload hx hb dX12_charges_175 (lv_at hl 0 rfl) ?_
          refine xi_iconst hx hb dX12_charges_177 ?_
          refine g_callV (i := 0) (As := [.int (iI (b)), .int (iI (6)), .int (iI (c)), .long (((sBel S b c) + 99) / 100), .int (iI ((-1)))]) (rest := []) K (c_M_books (b) (6) (c) (((sBel S b c) + 99) / 100) ((-1)) ⟨by omega, by omega⟩ ⟨by omega, by omega⟩ ⟨by omega, by omega⟩ ⟨by omega, by omega⟩ (okS_book ho _ _ _ _ _ (by omega)).1) (cwV 5 hts gM_X12_books rfl rfl rfl (by decide +kernel) ⟨Nat.le_of_ble_eq_true rfl, Nat.le_of_ble_eq_true rfl⟩) hK hW (mW_0 _ _ _ _ _) rfl rfl hl.1 rfl (Nat.le_of_ble_eq_true rfl) dX12_charges_178 ⟨Nat.le_refl _, Nat.le_refl _⟩ (fun v_ f_ H locs hp hW => ?_)
          obtain ⟨hpv, hpe⟩ := hp
          rw [hpe] at hW
          subst hpv
          exact g_vret hx hb hr hW ⟨rfl, by unfold sChg sCh1; rw [if_pos (show 0 < sInt S b c from c_7)]; rw [if_pos c_5]; try rfl⟩ dX12_charges_181 hlk
    · have j_8 : ∀ (zJ : Bool) (H : Heap) (locs : List Loc), zJ = (feB S b c k) → gW D B0 s_ (mW cy ix S (mX (I) (aM) (qM) (tM)) G) H locs → W p_ l e_ { frames := 2, cells := 0, slots := 0, locals := 47 } s_ m_ ([.ref (ix 100), .int (iI b), .int (iI c)] : List Value).toArray be_ me_ co_ H locs 0 0 (MQ be_ (gQ D B0 (fun (r : Option Value) (g : gF) => r = none ∧ g = mW cy ix (sChg S b c) (mX I aM qM tM) G)) ([.ref (ix 100), .int (iI b), .int (iI c)] : List Value).toArray s_ 0 0 (fun q : Nat => B0 ≤ q)) (F0 m_ 98 ls [.int (iI (bI (zJ)))]) := by
        intro zJ H locs hzJ hW
        subst hzJ
        refine lv_istore (lv' := [(7, .int (iI (bI (feB S b c k)))), (6, .int (iI (k))), (5, .int (iI (sFee S b c k.toNat))), (3, .long (sBel S b c)), (2, .int (iI (c))), (1, .int (iI (b))), (0, .ref (ix 100))]) hx hb dX12_charges_98 hl (by decide) rfl (fun ls hl => ?_)
        refine lv_iload hx hb dX12_charges_100 (lv_at hl 2 rfl) ?_
        have j_9 : ∀ (zJ : Int) (H : Heap) (locs : List Loc), zJ = (feK S b c k) → gW D B0 s_ (mW cy ix S (mX (I) (aM) (qM) (tM)) G) H locs → W p_ l e_ { frames := 2, cells := 0, slots := 0, locals := 47 } s_ m_ ([.ref (ix 100), .int (iI b), .int (iI c)] : List Value).toArray be_ me_ co_ H locs 0 0 (MQ be_ (gQ D B0 (fun (r : Option Value) (g : gF) => r = none ∧ g = mW cy ix (sChg S b c) (mX I aM qM tM) G)) ([.ref (ix 100), .int (iI b), .int (iI c)] : List Value).toArray s_ 0 0 (fun q : Nat => B0 ≤ q)) (F0 m_ 126 ls [.int (iI (zJ)), .int (iI (sFee S b c k.toNat))]) := by
          intro zJ H locs hzJ hW
          subst hzJ
          refine xi_iadd hx hb dX12_charges_126 ?_
          refine lv_istore (lv' := [(5, .int (iI ((sFee S b c k.toNat) + (feK S b c k)))), (7, .int (iI (bI (feB S b c k)))), (6, .int (iI (k))), (3, .long (sBel S b c)), (2, .int (iI (c))), (1, .int (iI (b))), (0, .ref (ix 100))]) hx hb dX12_charges_127 hl (by decide) rfl (fun ls hl => ?_)
          have hl : lv_has ls 8 [(5, .int (iI (sFee S b c (k + 1).toNat))), (7, .int (iI (bI (feB S b c k)))), (6, .int (iI (k))), (3, .long (sBel S b c)), (2, .int (iI (c))), (1, .int (iI (b))), (0, .ref (ix 100))] := by
            have hbe : ((sFee S b c k.toNat) + (feK S b c k)) = (sFee S b c (k + 1).toNat) := by rw [show (k + 1).toNat = k.toNat + 1 by omega, sFee_s, show ((k.toNat : Nat) : Int) = k by omega]
            rw [← hbe]; exact hl
          refine xi_iinc (lv' := [(6, .int (iI (k + 1))), (5, .int (iI (sFee S b c (k + 1).toNat))), (7, .int (iI (bI (feB S b c k)))), (3, .long (sBel S b c)), (2, .int (iI (c))), (1, .int (iI (b))), (0, .ref (ix 100))]) hx hb dX12_charges_129 hl (k := 2) rfl (by decide) rfl (fun ls hl => ?_)
          refine lv_goto (tgt := 37) hx hb dX12_charges_132 (by decide) ?_
          exact ih_lp_2 (k + 1) _ _ _ (by have := wf_8 hwf 0; first | omega | (dsimp only; omega)) ⟨⟨by omega, by omega⟩, hW, lv_sub hl [0, 1, 3, 4, 5, 6] rfl⟩
        refine lv_iload hx hb dX12_charges_102 (lv_at hl 0 rfl) ?_
        refine xi_ifb_ne (tgt := 111) hx hb dX12_charges_104 (by decide) (fun c_10 => ?_) (fun c_10 => ?_)
        · refine lv_aload_n hx hb dX12_charges_111 rfl (lv_at hl 6 rfl) ?_
          refine mr_get K hK hW hin 15 (by decide) lM_isReal (v := .ref (ix 115)) rfl dX12_charges_112 ?_
          refine lv_iload hx hb dX12_charges_115 (lv_at hl 1 rfl) ?_
          refine mr_zald K hK hW 15 (by decide) rfl (n := 60) rfl rfl ⟨by omega, by omega⟩ (v := S.1 15 (k)) rfl dX12_charges_117 ?_
          have w_11 := wf_15 hwf (k)
          refine xi_if_eq (tgt := 125) hx hb ⟨by omega, by omega⟩ dX12_charges_118 (by decide) (fun c_12 => ?_) (fun c_12 => ?_)
          · refine xi_iconst hx hb dX12_charges_125 ?_
            exact xi_eq (z' := feK S b c k) (by simp only [feK, c_4, Int.not_le.mpr c_4, c_10, c_12, decide_true, decide_false, Bool.true_and, Bool.and_true, Bool.false_and, Bool.and_false, Bool.true_or, Bool.or_true, Bool.false_or, Bool.or_false, Bool.not_true, Bool.not_false, eq_self, if_true, if_false, ite_true, ite_false, Bool.false_eq_true, reduceCtorEq, not_false_eq_true]) (j_9 _ _ _ rfl hW)
          · refine xi_iconst hx hb dX12_charges_121 ?_
            refine lv_goto (tgt := 126) hx hb dX12_charges_122 (by decide) ?_
            exact xi_eq (z' := feK S b c k) (by simp only [feK, c_4, Int.not_le.mpr c_4, c_10, c_12, decide_true, decide_false, Bool.true_and, Bool.and_true, Bool.false_and, Bool.and_false, Bool.true_or, Bool.or_true, Bool.false_or, Bool.or_false, Bool.not_true, Bool.not_false, eq_self, if_true, if_false, ite_true, ite_false, Bool.false_eq_true, reduceCtorEq, not_false_eq_true]) (j_9 _ _ _ rfl hW)
        · refine xi_iconst hx hb dX12_charges_107 ?_
          refine lv_goto (tgt := 126) hx hb dX12_charges_108 (by decide) ?_
          exact xi_eq (z' := feK S b c k) (by simp only [feK, c_4, Int.not_le.mpr c_4, c_10, decide_true, decide_false, Bool.true_and, Bool.and_true, Bool.false_and, Bool.and_false, Bool.true_or, Bool.or_true, Bool.false_or, Bool.or_false, Bool.not_true, Bool.not_false, eq_self, if_true, if_false, ite_true, ite_false, Bool.false_eq_true, reduceCtorEq, not_false_eq_true]) (j_9 _ _ _ rfl hW)
      refine lv_aload_n hx hb dX12_charges_46 rfl (lv_at hl 5 rfl) ?_
      refine mr_get K hK hW hin 18 (by decide) lM_state (v := .ref (ix 118)) rfl dX12_charges_47 ?_
      refine lv_iload hx hb dX12_charges_50 (lv_at hl 0 rfl) ?_
      refine mr_iald K hK hW 18 (by decide) rfl (n := 60) rfl rfl ⟨by omega, by omega⟩ (v := S.1 18 (k)) rfl dX12_charges_52 ?_
      have w_13 := wf_18 hwf (k)
      refine xi_iconst hx hb dX12_charges_53 ?_
      refine xi_icmp_ne (tgt := 97) hx hb ⟨by omega, by omega⟩ ⟨by omega, by omega⟩ dX12_charges_54 (by decide) (fun c_14 => ?_) (fun c_14 => ?_)
      · refine xi_iconst hx hb dX12_charges_97 ?_
        exact xi_eq (z' := bI (feB S b c k)) (bI_f (by simp only [feB, c_4, Int.not_le.mpr c_4, c_14, decide_true, decide_false, Bool.true_and, Bool.and_true, Bool.false_and, Bool.and_false, Bool.true_or, Bool.or_true, Bool.false_or, Bool.or_false, Bool.not_true, Bool.not_false, eq_self])) (j_8 _ _ _ rfl hW)
      · refine lv_aload_n hx hb dX12_charges_57 rfl (lv_at hl 5 rfl) ?_
        refine mr_get K hK hW hin 22 (by decide) lM_finalOn (v := .ref (ix 122)) rfl dX12_charges_58 ?_
        refine lv_iload hx hb dX12_charges_61 (lv_at hl 0 rfl) ?_
        refine mr_iald K hK hW 22 (by decide) rfl (n := 60) rfl rfl ⟨by omega, by omega⟩ (v := S.1 22 (k)) rfl dX12_charges_63 ?_
        have w_15 := wf_22 hwf (k)
        refine lv_aload_n hx hb dX12_charges_64 rfl (lv_at hl 5 rfl) ?_
        refine mr_get K hK hW hin 0 (by decide) lM_today (v := .int (iI (S.1 0 (0)))) rfl dX12_charges_65 ?_
        have w_w_16 := wf_0 hwf 0
        refine xi_icmp_ne (tgt := 97) hx hb ⟨by omega, by omega⟩ ⟨by omega, by omega⟩ dX12_charges_68 (by decide) (fun c_17 => ?_) (fun c_17 => ?_)
        · refine xi_iconst hx hb dX12_charges_97 ?_
          exact xi_eq (z' := bI (feB S b c k)) (bI_f (by simp only [feB, c_4, Int.not_le.mpr c_4, c_14, c_17, decide_true, decide_false, Bool.true_and, Bool.and_true, Bool.false_and, Bool.and_false, Bool.true_or, Bool.or_true, Bool.false_or, Bool.or_false, Bool.not_true, Bool.not_false, eq_self])) (j_8 _ _ _ rfl hW)
        · refine lv_aload_n hx hb dX12_charges_71 rfl (lv_at hl 5 rfl) ?_
          refine mr_get K hK hW hin 9 (by decide) lM_from (v := .ref (ix 109)) rfl dX12_charges_72 ?_
          refine lv_iload hx hb dX12_charges_75 (lv_at hl 0 rfl) ?_
          refine mr_iald K hK hW 9 (by decide) rfl (n := 60) rfl rfl ⟨by omega, by omega⟩ (v := S.1 9 (k)) rfl dX12_charges_77 ?_
          have w_18 := wf_9 hwf (k)
          refine lv_iload_n hx hb dX12_charges_78 rfl (lv_at hl 4 rfl) ?_
          refine xi_icmp_ne (tgt := 97) hx hb ⟨by omega, by omega⟩ ⟨by omega, by omega⟩ dX12_charges_79 (by decide) (fun c_19 => ?_) (fun c_19 => ?_)
          · refine xi_iconst hx hb dX12_charges_97 ?_
            exact xi_eq (z' := bI (feB S b c k)) (bI_f (by simp only [feB, c_4, Int.not_le.mpr c_4, c_14, c_17, c_19, decide_true, decide_false, Bool.true_and, Bool.and_true, Bool.false_and, Bool.and_false, Bool.true_or, Bool.or_true, Bool.false_or, Bool.or_false, Bool.not_true, Bool.not_false, eq_self])) (j_8 _ _ _ rfl hW)
          · refine lv_aload_n hx hb dX12_charges_82 rfl (lv_at hl 5 rfl) ?_
            refine mr_get K hK hW hin 11 (by decide) lM_currency (v := .ref (ix 111)) rfl dX12_charges_83 ?_
            refine lv_iload hx hb dX12_charges_86 (lv_at hl 0 rfl) ?_
            refine mr_iald K hK hW 11 (by decide) rfl (n := 60) rfl rfl ⟨by omega, by omega⟩ (v := S.1 11 (k)) rfl dX12_charges_88 ?_
            have w_20 := wf_11 hwf (k)
            refine lv_iload_n hx hb dX12_charges_89 rfl (lv_at hl 3 rfl) ?_
            refine xi_icmp_ne (tgt := 97) hx hb ⟨by omega, by omega⟩ ⟨by omega, by omega⟩ dX12_charges_90 (by decide) (fun c_21 => ?_) (fun c_21 => ?_)
            · refine xi_iconst hx hb dX12_charges_97 ?_
              exact xi_eq (z' := bI (feB S b c k)) (bI_f (by simp only [feB, c_4, Int.not_le.mpr c_4, c_14, c_17, c_19, c_21, decide_true, decide_false, Bool.true_and, Bool.and_true, Bool.false_and, Bool.and_false, Bool.true_or, Bool.or_true, Bool.false_or, Bool.or_false, Bool.not_true, Bool.not_false, eq_self])) (j_8 _ _ _ rfl hW)
            · refine xi_iconst hx hb dX12_charges_93 ?_
              refine lv_goto (tgt := 98) hx hb dX12_charges_94 (by decide) ?_
              exact xi_eq (z' := bI (feB S b c k)) (bI_t (by simp only [feB, c_4, Int.not_le.mpr c_4, c_14, c_17, c_19, c_21, decide_true, decide_false, Bool.true_and, Bool.and_true, Bool.false_and, Bool.and_false, Bool.true_or, Bool.or_true, Bool.false_or, Bool.or_false, Bool.not_true, Bool.not_false, eq_self])) (j_8 _ _ _ rfl hW)
  refine lv_aload_n hx hb dX12_charges_0 rfl (lv_at hl 0 rfl) ?_
  refine mr_get K hK hW hin 1 (by decide) lM_account (v := .ref (ix 101)) rfl dX12_charges_1 ?_
  refine lv_iload_n hx hb dX12_charges_4 rfl (lv_at hl 1 rfl) ?_
  refine lv_iload_n hx hb dX12_charges_5 rfl (lv_at hl 2 rfl) ?_
  refine g_callS (As := [.int (iI (b)), .int (iI (c))]) (rest := [.ref (ix 101)]) K (c_M_of (b) (c)) (va_cwS 2 hts gM_X12_of rfl rfl rfl (by decide +kernel) ⟨Nat.le_of_ble_eq_true rfl, Nat.le_of_ble_eq_true rfl⟩) hK hW rfl hl.1 rfl (Nat.le_of_ble_eq_true rfl) dX12_charges_6 ⟨Nat.le_refl _, Nat.le_refl _⟩ (fun v_ f_ H locs hp hW => ?_)
  obtain ⟨hpv, hpe⟩ := hp
  rw [hpe] at hW
  subst hpv
  refine mr_lald K hK hW 1 (by decide) rfl (n := 21) rfl rfl ⟨by omega, by omega⟩ (v := S.2 1 (3 * b + c)) rfl dX12_charges_9 ?_
  refine lv_lconst (v := 0) hx hb dX12_charges_10 (by decide) ?_
  refine xi_lcmp_ge (tgt := 29) hx hb dX12_charges_11 dX12_charges_12 (by decide) (fun c_22 => ?_) (fun c_22 => ?_)
  · refine lv_lconst (v := 0) hx hb dX12_charges_29 (by decide) ?_
    exact xl_eq (z' := sBel S b c) (by rw [sBel, if_neg c_22]) (j_1 _ _ _ rfl hW)
  · refine lv_aload_n hx hb dX12_charges_15 rfl (lv_at hl 0 rfl) ?_
    refine mr_get K hK hW hin 1 (by decide) lM_account (v := .ref (ix 101)) rfl dX12_charges_16 ?_
    refine lv_iload_n hx hb dX12_charges_19 rfl (lv_at hl 1 rfl) ?_
    refine lv_iload_n hx hb dX12_charges_20 rfl (lv_at hl 2 rfl) ?_
    refine g_callS (As := [.int (iI (b)), .int (iI (c))]) (rest := [.ref (ix 101)]) K (c_M_of (b) (c)) (va_cwS 2 hts gM_X12_of rfl rfl rfl (by decide +kernel) ⟨Nat.le_of_ble_eq_true rfl, Nat.le_of_ble_eq_true rfl⟩) hK hW rfl hl.1 rfl (Nat.le_of_ble_eq_true rfl) dX12_charges_21 ⟨Nat.le_refl _, Nat.le_refl _⟩ (fun v_ f_ H locs hp hW => ?_)
    obtain ⟨hpv, hpe⟩ := hp
    rw [hpe] at hW
    subst hpv
    refine mr_lald K hK hW 1 (by decide) rfl (n := 21) rfl rfl ⟨by omega, by omega⟩ (v := S.2 1 (3 * b + c)) rfl dX12_charges_24 ?_
    refine lv_lneg hx hb dX12_charges_25 ?_
    refine lv_goto (tgt := 30) hx hb dX12_charges_26 (by decide) ?_
    exact xl_eq (z' := sBel S b c) (by rw [sBel, if_pos c_22]) (j_1 _ _ _ rfl hW)
