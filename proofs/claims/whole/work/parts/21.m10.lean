set_option maxHeartbeats 4000000 in
set_option maxRecDepth 100000 in
theorem c_M_endDay {l : Launch} {D : va_G} {cy : Nat → ClassId} {B0 : Nat} {ix : Nat → Nat} {S : ST} {I : Int → Bool} {aM qM : Int → Int64} {tM : Int} {G : gF}   (ho : okS S) (hlg : lg4 S) (he : S.1 31 0 + cNF S ≤ 28700) : gM l yX12_endDay vX12_endDay 5 117 D cy B0 [.ref (ix 100)] (mW cy ix S (mX I aM qM tM) G) (fun r g => r = some (.int (iI (pEnd S ).2.1)) ∧ ∃ (J : Int → Bool) (a q : Int → Int64), g = mW cy ix (pEnd S ).2.2 (mX J a q (pEnd S ).1) G) 0 0 := by
  refine g_start (cc := cX12_endDay) (maxL := 4) (ret := (some .int)) (by decide) rfl (Nat.le_of_ble_eq_true rfl) ?_
  intro p_ e_ s_ m_ be_ me_ co_ ls H locs K hr hlk hnm hK hW hl
  have hin : ∀ w ∈ wsX120, w ∈ vX12_endDay := wsM_cls
  obtain ⟨hx, hb, hml, hown, hts⟩ := id K
  have hl : lv_has ls 4 [(0, .ref (ix 100))] := hl
  have hwf : wf S := ho.1
  have v0 := wf_0 hwf 0
  refine lv_aload_n hx hb dX12_endDay_0 rfl (lv_at hl 0 rfl) ?_
  have j_1 : ∀ (zJ : Bool) (H : Heap) (locs : List Loc), zJ = (decide (S.1 0 0 < 998)) → gW D B0 s_ (mW cy ix S (mX (I) (aM) (qM) (tM)) G) H locs → W p_ l e_ { frames := 5, cells := 0, slots := 0, locals := 117 } s_ m_ ([.ref (ix 100)] : List Value).toArray be_ me_ co_ H locs 0 0 (MQ be_ (gQ D B0 (fun (r : Option Value) (g : gF) => r = some (.int (iI (pEnd S ).2.1)) ∧ ∃ (J : Int → Bool) (a q : Int → Int64), g = mW cy ix (pEnd S ).2.2 (mX J a q (pEnd S ).1) G)) ([.ref (ix 100)] : List Value).toArray s_ 0 0 (fun q : Nat => B0 ≤ q)) (F0 m_ 16 ls [.int (iI (bI (zJ))), .ref (ix 100)]) := by
    intro zJ H locs hzJ hW
    subst hzJ
    refine xi_iconst hx hb dX12_endDay_16 ?_
    refine xi_iconst hx hb dX12_endDay_17 ?_
    refine g_callV (i := 0) (As := [.int (iI (bI (decide (S.1 0 0 < 998)))), .int (iI (1)), .int (iI (1))]) (rest := []) K (c_M_goes (decide (S.1 0 0 < 998)) (true) (true)) (cwV 3 hts gM_X12_goes rfl rfl rfl (by decide +kernel) ⟨Nat.le_of_ble_eq_true rfl, Nat.le_of_ble_eq_true rfl⟩) hK hW (mW_0 _ _ _ _ _) rfl rfl hl.1 rfl (Nat.le_of_ble_eq_true rfl) dX12_endDay_18 ⟨Nat.le_refl _, Nat.le_refl _⟩ (fun v_ f_ H locs hp hW => ?_)
    obtain ⟨hpv, hpe⟩ := hp
    rw [hpe] at hW
    subst hpv
    refine xi_ifb_ne (tgt := 26) hx hb dX12_endDay_21 (by decide) (fun c_2 => ?_) (fun c_2 => ?_)
    · have hg := c_2
      simp only [sIn, Bool.and_eq_true, Bool.or_eq_true, decide_eq_true_eq, Bool.not_eq_true', decide_eq_false_iff_not, and_true, true_and] at hg
      have h80 := wf_8 hwf 0
      refine xi_iconst hx hb dX12_endDay_26 ?_
      refine lv_istore_n (lv' := [(1, .int (iI (0))), (0, .ref (ix 100))]) hx hb dX12_endDay_27 rfl hl (by decide) rfl (fun ls hl => ?_)
      refine xi_iconst hx hb dX12_endDay_28 ?_
      refine lv_istore_n (lv' := [(2, .int (iI (0))), (1, .int (iI (0))), (0, .ref (ix 100))]) hx hb dX12_endDay_29 rfl hl (by decide) rfl (fun ls hl => ?_)
      refine lp_w3 (Wg := fun (H : Heap) (locs : List Loc) (ls : Array Slot) => W p_ l e_ { frames := 5, cells := 0, slots := 0, locals := 117 } s_ m_ ([.ref (ix 100)] : List Value).toArray be_ me_ co_ H locs 0 0 (MQ be_ (gQ D B0 (fun (r : Option Value) (g : gF) => r = some (.int (iI (pEnd S ).2.1)) ∧ ∃ (J : Int → Bool) (a q : Int → Int64), g = mW cy ix (pEnd S ).2.2 (mX J a q (pEnd S ).1) G)) ([.ref (ix 100)] : List Value).toArray s_ 0 0 (fun q : Nat => B0 ≤ q)) (F0 m_ 30 ls [])) (fun (k : Int) (y : Int × ST) (x : (Int → Bool) × (Int → Int64) × (Int → Int64)) (H : Heap) (locs : List Loc) (ls : Array Slot) => ((0 ≤ k ∧ k ≤ 3) ∧ y = foS ed1 (0, S) k.toNat) ∧ gW D B0 s_ (mW cy ix y.2 (mX (x.1) (x.2.1) (x.2.2) (sGo (decide (S.1 0 0 < 998)) true true)) G) H locs ∧ lv_has ls 4 [(2, .int (iI (k))), (1, .int (iI (y.1))), (0, .ref (ix 100))]) (fun (k : Int) (y : Int × ST) (x : (Int → Bool) × (Int → Int64) × (Int → Int64)) => (3 - k).toNat) (fun k y x H locs ls hI ih_lp_3 => ?_) (0) ((0, S)) ((I, aM, qM)) _ _ _ ⟨⟨by decide, rfl⟩, hW, lv_sub hl [0, 1, 2] rfl⟩
      obtain ⟨hI_lp_3, hW, hl⟩ := hI
      obtain ⟨hk, hy⟩ := hI_lp_3
      have hys := ed1_all ho hlg k.toNat
      rw [← hy] at hys
      have v0 := wf_0 hys.1.1.1 0
      refine lv_iload_n hx hb dX12_endDay_30 rfl (lv_at hl 0 rfl) ?_
      refine xi_iconst hx hb dX12_endDay_31 ?_
      refine xi_icmp_ge (tgt := 65) hx hb ⟨by omega, by omega⟩ ⟨by omega, by omega⟩ dX12_endDay_32 (by decide) (fun c_4 => ?_) (fun c_4 => ?_)
      · have hy : y = sEd1 S := by rw [hy, show k.toNat = 3 by omega]; rfl
        have y8 := wf_8 hys.1.1.1 0
        refine xi_iconst hx hb dX12_endDay_65 ?_
        refine lv_istore_n (lv' := [(2, .int (iI (0))), (1, .int (iI (y.1))), (0, .ref (ix 100))]) hx hb dX12_endDay_66 rfl hl (by decide) rfl (fun ls hl => ?_)
        refine lp_w2 (Wg := fun (H : Heap) (locs : List Loc) (ls : Array Slot) => W p_ l e_ { frames := 5, cells := 0, slots := 0, locals := 117 } s_ m_ ([.ref (ix 100)] : List Value).toArray be_ me_ co_ H locs 0 0 (MQ be_ (gQ D B0 (fun (r : Option Value) (g : gF) => r = some (.int (iI (pEnd S ).2.1)) ∧ ∃ (J : Int → Bool) (a q : Int → Int64), g = mW cy ix (pEnd S ).2.2 (mX J a q (pEnd S ).1) G)) ([.ref (ix 100)] : List Value).toArray s_ 0 0 (fun q : Nat => B0 ≤ q)) (F0 m_ 67 ls [])) (fun (k : Int) (T : ST) (H : Heap) (locs : List Loc) (ls : Array Slot) => ((0 ≤ k ∧ k ≤ y.2.1 8 0) ∧ T = foS ed2 y.2 k.toNat) ∧ gW D B0 s_ (mW cy ix T (mX (x.1) (x.2.1) (x.2.2) (sGo (decide (S.1 0 0 < 998)) true true)) G) H locs ∧ lv_has ls 4 [(2, .int (iI (k))), (1, .int (iI (y.1))), (0, .ref (ix 100))]) (fun (k : Int) (T : ST) => (60 - k).toNat) (fun k T H locs ls hI ih_lp_5 => ?_) (0) (y.2) _ _ _ ⟨⟨⟨by decide, by omega⟩, rfl⟩, hW, lv_sub hl [0, 1, 2] rfl⟩
        obtain ⟨hI_lp_5, hW, hl⟩ := hI
        obtain ⟨hk, hT⟩ := hI_lp_5
        have hTs := ed2_all hys.1.1 hys.2.2 k.toNat (by unfold nP; omega)
        rw [← hT] at hTs
        have hT8 : T.1 8 0 = y.2.1 8 0 := by rw [hTs.2.2.2 8 (by decide)]
        have v0 := wf_0 hTs.1.1 0
        refine lv_iload_n hx hb dX12_endDay_67 rfl (lv_at hl 0 rfl) ?_
        refine lv_aload_n hx hb dX12_endDay_68 rfl (lv_at hl 2 rfl) ?_
        refine mr_get K hK hW hin 8 (by decide) lM_payments (v := .int (iI (T.1 8 (0)))) rfl dX12_endDay_69 ?_
        have w_w_6 := wf_8 hTs.1.1 0
        refine xi_icmp_ge (tgt := 133) hx hb ⟨by omega, by omega⟩ ⟨by omega, by omega⟩ dX12_endDay_72 (by decide) (fun c_7 => ?_) (fun c_7 => ?_)
        · have hT : T = sEd2 y.2 := by rw [hT, show k.toNat = nP y.2 by unfold nP; omega]; rfl
          have hTe : T.1 31 0 + cNF T ≤ 28800 := by
            have e1 := hys.2.1; unfold rdE at e1
            have e2 := hys.1.2.2.1
            rw [hTs.2.2.1, hTs.2.2.2 31 (by decide)]; omega
          refine xi_iconst hx hb dX12_endDay_133 ?_
          refine lv_istore_n (lv' := [(2, .int (iI (0))), (1, .int (iI (y.1))), (0, .ref (ix 100))]) hx hb dX12_endDay_134 rfl hl (by decide) rfl (fun ls hl => ?_)
          refine lp_w2 (Wg := fun (H : Heap) (locs : List Loc) (ls : Array Slot) => W p_ l e_ { frames := 5, cells := 0, slots := 0, locals := 117 } s_ m_ ([.ref (ix 100)] : List Value).toArray be_ me_ co_ H locs 0 0 (MQ be_ (gQ D B0 (fun (r : Option Value) (g : gF) => r = some (.int (iI (pEnd S ).2.1)) ∧ ∃ (J : Int → Bool) (a q : Int → Int64), g = mW cy ix (pEnd S ).2.2 (mX J a q (pEnd S ).1) G)) ([.ref (ix 100)] : List Value).toArray s_ 0 0 (fun q : Nat => B0 ≤ q)) (F0 m_ 135 ls [])) (fun (k : Int) (U : ST) (H : Heap) (locs : List Loc) (ls : Array Slot) => ((0 ≤ k ∧ k ≤ 18) ∧ U = foS ed3 T k.toNat) ∧ gW D B0 s_ (mW cy ix U (mX (x.1) (x.2.1) (x.2.2) (sGo (decide (S.1 0 0 < 998)) true true)) G) H locs ∧ lv_has ls 4 [(2, .int (iI (k))), (1, .int (iI (y.1))), (0, .ref (ix 100))]) (fun (k : Int) (U : ST) => (18 - k).toNat) (fun k U H locs ls hI ih_lp_8 => ?_) (0) (T) _ _ _ ⟨⟨by decide, rfl⟩, hW, lv_sub hl [0, 1, 2] rfl⟩
          obtain ⟨hI_lp_8, hW, hl⟩ := hI
          obtain ⟨hk, hU⟩ := hI_lp_8
          have hUs := ed3_all hTs.1 hTe k.toNat (by omega)
          rw [← hU] at hUs
          refine lv_iload_n hx hb dX12_endDay_135 rfl (lv_at hl 0 rfl) ?_
          refine xi_bipush hx hb dX12_endDay_136 (by decide) ?_
          refine xi_icmp_ge (tgt := 157) hx hb ⟨by omega, by omega⟩ ⟨by omega, by omega⟩ dX12_endDay_138 (by decide) (fun c_9 => ?_) (fun c_9 => ?_)
          · have hU : U = sEd3 T := by rw [hU, show k.toNat = 18 by omega]; rfl
            have hU0 : U.1 0 0 = S.1 0 0 := by rw [hUs.2.2.2.2 0 (by decide), hTs.2.2.2 0 (by decide), hys.1.2.2.2 0 (by unfold cht; decide)]
            have hd0 := hg
            have hP := okS_pI hUs.1 (f := 0) 0 (U.1 0 0 + 1) (by decide) ⟨by simp only [rLo]; omega, by simp only [rHi]; omega⟩
            refine lv_aload_n hx hb dX12_endDay_157 rfl (lv_at hl 2 rfl) ?_
            refine lv_dup hx hb dX12_endDay_158 rfl ?_
            refine mr_get K hK hW hin 0 (by decide) lM_today (v := .int (iI (U.1 0 (0)))) rfl dX12_endDay_159 ?_
            have w_w_10 := wf_0 hUs.1.1 0
            refine xi_iconst hx hb dX12_endDay_162 ?_
            refine xi_iadd hx hb dX12_endDay_163 ?_
            refine mr_put K hK hW hin 0 (by decide) lM_today rfl rfl (S' := (pI U 0 (0) ((U.1 0 (0)) + 1))) (X' := (mX (x.1) (x.2.1) (x.2.2) (sGo (decide (S.1 0 0 < 998)) true true))) rfl (fun i hi => mC_sc rfl hi (by decide)) dX12_endDay_164 (fun H locs hW => ?_)
            refine xi_iconst hx hb dX12_endDay_167 ?_
            refine lv_istore_n (lv' := [(2, .int (iI (0))), (1, .int (iI (y.1))), (0, .ref (ix 100))]) hx hb dX12_endDay_168 rfl hl (by decide) rfl (fun ls hl => ?_)
            refine lp_w2 (Wg := fun (H : Heap) (locs : List Loc) (ls : Array Slot) => W p_ l e_ { frames := 5, cells := 0, slots := 0, locals := 117 } s_ m_ ([.ref (ix 100)] : List Value).toArray be_ me_ co_ H locs 0 0 (MQ be_ (gQ D B0 (fun (r : Option Value) (g : gF) => r = some (.int (iI (pEnd S ).2.1)) ∧ ∃ (J : Int → Bool) (a q : Int → Int64), g = mW cy ix (pEnd S ).2.2 (mX J a q (pEnd S ).1) G)) ([.ref (ix 100)] : List Value).toArray s_ 0 0 (fun q : Nat => B0 ≤ q)) (F0 m_ 169 ls [])) (fun (k : Int) (Y : ST) (H : Heap) (locs : List Loc) (ls : Array Slot) => ((0 ≤ k ∧ k ≤ 108) ∧ Y = foS ed4 (pI U 0 0 (U.1 0 0 + 1)) k.toNat) ∧ gW D B0 s_ (mW cy ix Y (mX (x.1) (x.2.1) (x.2.2) (sGo (decide (S.1 0 0 < 998)) true true)) G) H locs ∧ lv_has ls 4 [(2, .int (iI (k))), (1, .int (iI (y.1))), (0, .ref (ix 100))]) (fun (k : Int) (Y : ST) => (108 - k).toNat) (fun k Y H locs ls hI ih_lp_11 => ?_) (0) (pI U 0 0 (U.1 0 0 + 1)) _ _ _ ⟨⟨by decide, rfl⟩, hW, lv_sub hl [0, 1, 2] rfl⟩
            obtain ⟨hI_lp_11, hW, hl⟩ := hI
            obtain ⟨hk, hY⟩ := hI_lp_11
            refine lv_iload_n hx hb dX12_endDay_169 rfl (lv_at hl 0 rfl) ?_
            refine xi_bipush hx hb dX12_endDay_170 (by decide) ?_
            refine xi_icmp_ge (tgt := 188) hx hb ⟨by omega, by omega⟩ ⟨by omega, by omega⟩ dX12_endDay_172 (by decide) (fun c_12 => ?_) (fun c_12 => ?_)
            · have hYs : okS Y := by rw [hY]; exact okS_1 hP (ed4_1 _ _)
              have hY : Y = sEd4 U := by rw [hY, show k.toNat = 108 by omega]; rfl
              have Y8 := wf_8 hYs.1 0
              refine xi_iconst hx hb dX12_endDay_188 ?_
              refine lv_istore_n (lv' := [(2, .int (iI (0))), (1, .int (iI (y.1))), (0, .ref (ix 100))]) hx hb dX12_endDay_189 rfl hl (by decide) rfl (fun ls hl => ?_)
              refine lp_w2 (Wg := fun (H : Heap) (locs : List Loc) (ls : Array Slot) => W p_ l e_ { frames := 5, cells := 0, slots := 0, locals := 117 } s_ m_ ([.ref (ix 100)] : List Value).toArray be_ me_ co_ H locs 0 0 (MQ be_ (gQ D B0 (fun (r : Option Value) (g : gF) => r = some (.int (iI (pEnd S ).2.1)) ∧ ∃ (J : Int → Bool) (a q : Int → Int64), g = mW cy ix (pEnd S ).2.2 (mX J a q (pEnd S ).1) G)) ([.ref (ix 100)] : List Value).toArray s_ 0 0 (fun q : Nat => B0 ≤ q)) (F0 m_ 190 ls [])) (fun (k : Int) (Z : ST) (H : Heap) (locs : List Loc) (ls : Array Slot) => ((0 ≤ k ∧ k ≤ Y.1 8 0) ∧ Z = foS ed5 Y k.toNat) ∧ gW D B0 s_ (mW cy ix Z (mX (x.1) (x.2.1) (x.2.2) (sGo (decide (S.1 0 0 < 998)) true true)) G) H locs ∧ lv_has ls 4 [(2, .int (iI (k))), (1, .int (iI (y.1))), (0, .ref (ix 100))]) (fun (k : Int) (Z : ST) => (60 - k).toNat) (fun k Z H locs ls hI ih_lp_13 => ?_) (0) (Y) _ _ _ ⟨⟨⟨by decide, by omega⟩, rfl⟩, hW, lv_sub hl [0, 1, 2] rfl⟩
              obtain ⟨hI_lp_13, hW, hl⟩ := hI
              obtain ⟨hk, hZ⟩ := hI_lp_13
              have hZs := ed5_all hYs k.toNat (by omega)
              rw [← hZ] at hZs
              have hZ8 : Z.1 8 0 = Y.1 8 0 := by rw [hZs.2.2 8 (by decide)]
              have v0 := wf_0 hZs.1.1 0
              refine lv_iload_n hx hb dX12_endDay_190 rfl (lv_at hl 0 rfl) ?_
              refine lv_aload_n hx hb dX12_endDay_191 rfl (lv_at hl 2 rfl) ?_
              refine mr_get K hK hW hin 8 (by decide) lM_payments (v := .int (iI (Z.1 8 (0)))) rfl dX12_endDay_192 ?_
              have w_w_14 := wf_8 hZs.1.1 0
              refine xi_icmp_ge (tgt := 248) hx hb ⟨by omega, by omega⟩ ⟨by omega, by omega⟩ dX12_endDay_195 (by decide) (fun c_15 => ?_) (fun c_15 => ?_)
              · have hZ : Z = sEndS S := by rw [hZ, show k.toNat = nP Y by unfold nP; omega, hY, hU, hT, hy]; rfl
                rw [hZ] at hW
                have hZo : okS (sEndS S) := hZ ▸ hZs.1
                rw [hy] at hl
                refine lv_iload_n hx hb dX12_endDay_248 rfl (lv_at hl 1 rfl) ?_
                refine lv_aload_n hx hb dX12_endDay_249 rfl (lv_at hl 2 rfl) ?_
                refine g_callV (i := 0) (As := []) (rest := [.int (iI ((sEd1 S).1))]) K (c_M_runs hZo) (cwV 0 hts gM_X12_runs rfl rfl rfl (by decide +kernel) ⟨Nat.le_of_ble_eq_true rfl, Nat.le_of_ble_eq_true rfl⟩) hK hW (mW_0 _ _ _ _ _) rfl rfl hl.1 rfl (Nat.le_of_ble_eq_true rfl) dX12_endDay_250 ⟨Nat.le_refl _, Nat.le_refl _⟩ (fun v_ f_ H locs hp hW => ?_)
                obtain ⟨hpv, J, a, q, hpe⟩ := hp
                rw [hpe] at hW
                subst hpv
                refine xi_iadd hx hb dX12_endDay_253 ?_
                exact g_iret hx hb hr hW ⟨by rw [pEnd, if_pos c_2], _, _, _, by rw [pEnd, if_pos c_2]⟩ dX12_endDay_254 hlk
              · refine lv_aload_n hx hb dX12_endDay_198 rfl (lv_at hl 2 rfl) ?_
                refine mr_get K hK hW hin 18 (by decide) lM_state (v := .ref (ix 118)) rfl dX12_endDay_199 ?_
                refine lv_iload_n hx hb dX12_endDay_202 rfl (lv_at hl 0 rfl) ?_
                refine mr_iald K hK hW 18 (by decide) rfl (n := 60) rfl rfl ⟨by omega, by omega⟩ (v := Z.1 18 (k)) rfl dX12_endDay_203 ?_
                have w_16 := wf_18 hZs.1.1 (k)
                refine xi_if_ne (tgt := 242) hx hb ⟨by omega, by omega⟩ dX12_endDay_204 (by decide) (fun c_17 => ?_) (fun c_17 => ?_)
                · refine xi_iinc (lv' := [(2, .int (iI (k + 1))), (1, .int (iI (y.1))), (0, .ref (ix 100))]) hx hb dX12_endDay_242 hl (k := 0) rfl (by decide) rfl (fun ls hl => ?_)
                  refine lv_goto (tgt := 190) hx hb dX12_endDay_245 (by decide) ?_
                  have hlc : (decide (Z.1 18 k = 0) && decide (Z.1 16 k ≤ Z.1 0 0) && sOpen Z (Z.1 11 k) (Z.1 0 0)) = false := by simp only [c_17, decide_true, decide_false, Bool.true_and, Bool.and_true, Bool.false_and, Bool.and_false, Bool.true_or, Bool.or_true, Bool.false_or, Bool.or_false, Bool.not_true, Bool.not_false, eq_self]
                  have hls : ed5 k Z = Z := by rw [ed5, hlc]; rfl
                  have hW : gW D B0 s_ (mW cy ix (ed5 k Z) (mX (x.1) (x.2.1) (x.2.2) (sGo (decide (S.1 0 0 < 998)) true true)) G) H locs := by rw [hls]; exact hW
                  exact ih_lp_13 (k + 1) (ed5 k Z) _ _ _ (by first | omega | (dsimp only; omega)) ⟨⟨⟨by omega, by omega⟩, by rw [show (k + 1).toNat = k.toNat + 1 by omega, foS_s, show ((k.toNat : Nat) : Int) = k by omega, ← hZ]⟩, hW, lv_sub hl [0, 1, 2] rfl⟩
                · refine lv_aload_n hx hb dX12_endDay_207 rfl (lv_at hl 2 rfl) ?_
                  refine mr_get K hK hW hin 16 (by decide) lM_day (v := .ref (ix 116)) rfl dX12_endDay_208 ?_
                  refine lv_iload_n hx hb dX12_endDay_211 rfl (lv_at hl 0 rfl) ?_
                  refine mr_iald K hK hW 16 (by decide) rfl (n := 60) rfl rfl ⟨by omega, by omega⟩ (v := Z.1 16 (k)) rfl dX12_endDay_212 ?_
                  have w_18 := wf_16 hZs.1.1 (k)
                  refine lv_aload_n hx hb dX12_endDay_213 rfl (lv_at hl 2 rfl) ?_
                  refine mr_get K hK hW hin 0 (by decide) lM_today (v := .int (iI (Z.1 0 (0)))) rfl dX12_endDay_214 ?_
                  have w_w_19 := wf_0 hZs.1.1 0
                  refine xi_icmp_gt (tgt := 242) hx hb ⟨by omega, by omega⟩ ⟨by omega, by omega⟩ dX12_endDay_217 (by decide) (fun c_20 => ?_) (fun c_20 => ?_)
                  · refine xi_iinc (lv' := [(2, .int (iI (k + 1))), (1, .int (iI (y.1))), (0, .ref (ix 100))]) hx hb dX12_endDay_242 hl (k := 0) rfl (by decide) rfl (fun ls hl => ?_)
                    refine lv_goto (tgt := 190) hx hb dX12_endDay_245 (by decide) ?_
                    have hlc : (decide (Z.1 18 k = 0) && decide (Z.1 16 k ≤ Z.1 0 0) && sOpen Z (Z.1 11 k) (Z.1 0 0)) = false := by simp only [c_17, c_20, Int.not_le.mpr c_20, decide_true, decide_false, Bool.true_and, Bool.and_true, Bool.false_and, Bool.and_false, Bool.true_or, Bool.or_true, Bool.false_or, Bool.or_false, Bool.not_true, Bool.not_false, eq_self]
                    have hls : ed5 k Z = Z := by rw [ed5, hlc]; rfl
                    have hW : gW D B0 s_ (mW cy ix (ed5 k Z) (mX (x.1) (x.2.1) (x.2.2) (sGo (decide (S.1 0 0 < 998)) true true)) G) H locs := by rw [hls]; exact hW
                    exact ih_lp_13 (k + 1) (ed5 k Z) _ _ _ (by first | omega | (dsimp only; omega)) ⟨⟨⟨by omega, by omega⟩, by rw [show (k + 1).toNat = k.toNat + 1 by omega, foS_s, show ((k.toNat : Nat) : Int) = k by omega, ← hZ]⟩, hW, lv_sub hl [0, 1, 2] rfl⟩
                  · refine lv_aload_n hx hb dX12_endDay_220 rfl (lv_at hl 2 rfl) ?_
                    refine lv_aload_n hx hb dX12_endDay_221 rfl (lv_at hl 2 rfl) ?_
                    refine mr_get K hK hW hin 11 (by decide) lM_currency (v := .ref (ix 111)) rfl dX12_endDay_222 ?_
                    refine lv_iload_n hx hb dX12_endDay_225 rfl (lv_at hl 0 rfl) ?_
                    refine mr_iald K hK hW 11 (by decide) rfl (n := 60) rfl rfl ⟨by omega, by omega⟩ (v := Z.1 11 (k)) rfl dX12_endDay_226 ?_
                    have w_21 := wf_11 hZs.1.1 (k)
                    refine lv_aload_n hx hb dX12_endDay_227 rfl (lv_at hl 2 rfl) ?_
                    refine mr_get K hK hW hin 0 (by decide) lM_today (v := .int (iI (Z.1 0 (0)))) rfl dX12_endDay_228 ?_
                    have w_w_22 := wf_0 hZs.1.1 0
                    refine g_callV (i := 0) (As := [.int (iI (Z.1 11 (k))), .int (iI (Z.1 0 (0)))]) (rest := []) K (c_M_isOpen (Z.1 11 (k)) (Z.1 0 (0)) ⟨by omega, by omega⟩ ⟨by omega, by omega⟩ hZs.1.1) (cwV 2 hts gM_X12_isOpen rfl rfl rfl (by decide +kernel) ⟨Nat.le_of_ble_eq_true rfl, Nat.le_of_ble_eq_true rfl⟩) hK hW (mW_0 _ _ _ _ _) rfl rfl hl.1 rfl (Nat.le_of_ble_eq_true rfl) dX12_endDay_231 ⟨Nat.le_refl _, Nat.le_refl _⟩ (fun v_ f_ H locs hp hW => ?_)
                    obtain ⟨hpv, hpe⟩ := hp
                    rw [hpe] at hW
                    have hpv : v_ = some (.int (iI (bI (sOpen Z (Z.1 11 (k)) (Z.1 0 (0)))))) := hpv
                    subst hpv
                    refine xi_ifb_eq (tgt := 242) hx hb dX12_endDay_234 (by decide) (fun c_23 => ?_) (fun c_23 => ?_)
                    · refine xi_iinc (lv' := [(2, .int (iI (k + 1))), (1, .int (iI (y.1))), (0, .ref (ix 100))]) hx hb dX12_endDay_242 hl (k := 0) rfl (by decide) rfl (fun ls hl => ?_)
                      refine lv_goto (tgt := 190) hx hb dX12_endDay_245 (by decide) ?_
                      have hlc : (decide (Z.1 18 k = 0) && decide (Z.1 16 k ≤ Z.1 0 0) && sOpen Z (Z.1 11 k) (Z.1 0 0)) = false := by simp only [c_17, c_20, Int.not_lt.mpr c_20, c_23, decide_true, decide_false, Bool.true_and, Bool.and_true, Bool.false_and, Bool.and_false, Bool.true_or, Bool.or_true, Bool.false_or, Bool.or_false, Bool.not_true, Bool.not_false, eq_self]
                      have hls : ed5 k Z = Z := by rw [ed5, hlc]; rfl
                      have hW : gW D B0 s_ (mW cy ix (ed5 k Z) (mX (x.1) (x.2.1) (x.2.2) (sGo (decide (S.1 0 0 < 998)) true true)) G) H locs := by rw [hls]; exact hW
                      exact ih_lp_13 (k + 1) (ed5 k Z) _ _ _ (by first | omega | (dsimp only; omega)) ⟨⟨⟨by omega, by omega⟩, by rw [show (k + 1).toNat = k.toNat + 1 by omega, foS_s, show ((k.toNat : Nat) : Int) = k by omega, ← hZ]⟩, hW, lv_sub hl [0, 1, 2] rfl⟩
                    · refine lv_aload_n hx hb dX12_endDay_237 rfl (lv_at hl 2 rfl) ?_
                      refine lv_iload_n hx hb dX12_endDay_238 rfl (lv_at hl 0 rfl) ?_
                      refine g_callV (i := 0) (As := [.int (iI (k))]) (rest := []) K (c_M_enters (k) ⟨by omega, by omega⟩ hZs.1.1) (cwV 1 hts gM_X12_enters rfl rfl rfl (by decide +kernel) ⟨Nat.le_of_ble_eq_true rfl, Nat.le_of_ble_eq_true rfl⟩) hK hW (mW_0 _ _ _ _ _) rfl rfl hl.1 rfl (Nat.le_of_ble_eq_true rfl) dX12_endDay_239 ⟨Nat.le_refl _, Nat.le_refl _⟩ (fun v_ f_ H locs hp hW => ?_)
                      obtain ⟨hpv, hpe⟩ := hp
                      rw [hpe] at hW
                      subst hpv
                      refine xi_iinc (lv' := [(2, .int (iI (k + 1))), (1, .int (iI (y.1))), (0, .ref (ix 100))]) hx hb dX12_endDay_242 hl (k := 0) rfl (by decide) rfl (fun ls hl => ?_)
                      refine lv_goto (tgt := 190) hx hb dX12_endDay_245 (by decide) ?_
                      have hlc : (decide (Z.1 18 k = 0) && decide (Z.1 16 k ≤ Z.1 0 0) && sOpen Z (Z.1 11 k) (Z.1 0 0)) = true := by simp only [c_17, c_20, Int.not_lt.mpr c_20, c_23, decide_true, decide_false, Bool.true_and, Bool.and_true, Bool.false_and, Bool.and_false, Bool.true_or, Bool.or_true, Bool.false_or, Bool.or_false, Bool.not_true, Bool.not_false, eq_self]
                      have hls : ed5 k Z = sEnter Z k := by rw [ed5, hlc]; rfl
                      have hW : gW D B0 s_ (mW cy ix (ed5 k Z) (mX (x.1) (x.2.1) (x.2.2) (sGo (decide (S.1 0 0 < 998)) true true)) G) H locs := by rw [hls]; exact hW
                      exact ih_lp_13 (k + 1) (ed5 k Z) _ _ _ (by first | omega | (dsimp only; omega)) ⟨⟨⟨by omega, by omega⟩, by rw [show (k + 1).toNat = k.toNat + 1 by omega, foS_s, show ((k.toNat : Nat) : Int) = k by omega, ← hZ]⟩, hW, lv_sub hl [0, 1, 2] rfl⟩
            · refine lv_aload_n hx hb dX12_endDay_175 rfl (lv_at hl 2 rfl) ?_
              refine mr_get K hK hW hin 4 (by decide) lM_paid (v := .ref (ix 104)) rfl dX12_endDay_176 ?_
              refine lv_iload_n hx hb dX12_endDay_179 rfl (lv_at hl 0 rfl) ?_
              refine lv_lconst (v := 0) hx hb dX12_endDay_180 (by decide) ?_
              refine mr_last K hK hW 4 (by decide) rfl (by decide) (n := 108) rfl rfl ⟨by omega, by omega⟩ dX12_endDay_181 (fun H locs hW => ?_)
              refine xi_iinc (lv' := [(2, .int (iI (k + 1))), (1, .int (iI (y.1))), (0, .ref (ix 100))]) hx hb dX12_endDay_182 hl (k := 0) rfl (by decide) rfl (fun ls hl => ?_)
              refine lv_goto (tgt := 169) hx hb dX12_endDay_185 (by decide) ?_
              exact ih_lp_11 (k + 1) (ed4 k Y) _ _ _ (by first | omega | (dsimp only; omega)) ⟨⟨⟨by omega, by omega⟩, by rw [show (k + 1).toNat = k.toNat + 1 by omega, foS_s, show ((k.toNat : Nat) : Int) = k by omega, ← hY]⟩, hW, lv_sub hl [0, 1, 2] rfl⟩
          · refine lv_aload_n hx hb dX12_endDay_141 rfl (lv_at hl 2 rfl) ?_
            refine lv_iload_n hx hb dX12_endDay_142 rfl (lv_at hl 0 rfl) ?_
            refine xi_iconst hx hb dX12_endDay_143 ?_
            refine xi_idiv hx hb ⟨by omega, by omega⟩ ⟨by omega, by omega⟩ dX12_endDay_144 ?_
            refine lv_iload_n hx hb dX12_endDay_145 rfl (lv_at hl 0 rfl) ?_
            refine xi_iconst hx hb dX12_endDay_146 ?_
            refine xi_irem hx hb ⟨by omega, by omega⟩ ⟨by omega, by omega⟩ dX12_endDay_147 ?_
            refine g_callV (i := 0) (As := [.int (iI (k / 3)), .int (iI (k % 3))]) (rest := []) K (c_M_charges (k / 3) (k % 3) ⟨by omega, by omega⟩ ⟨by omega, by omega⟩ hUs.1 (by have e1 := hUs.2.1; have e2 := hUs.2.2.2.1; omega)) (cwV 2 hts gM_X12_charges rfl rfl rfl (by decide +kernel) ⟨Nat.le_of_ble_eq_true rfl, Nat.le_of_ble_eq_true rfl⟩) hK hW (mW_0 _ _ _ _ _) rfl rfl hl.1 rfl (Nat.le_of_ble_eq_true rfl) dX12_endDay_148 ⟨Nat.le_refl _, Nat.le_refl _⟩ (fun v_ f_ H locs hp hW => ?_)
            obtain ⟨hpv, hpe⟩ := hp
            rw [hpe] at hW
            subst hpv
            refine xi_iinc (lv' := [(2, .int (iI (k + 1))), (1, .int (iI (y.1))), (0, .ref (ix 100))]) hx hb dX12_endDay_151 hl (k := 0) rfl (by decide) rfl (fun ls hl => ?_)
            refine lv_goto (tgt := 135) hx hb dX12_endDay_154 (by decide) ?_
            exact ih_lp_8 (k + 1) (ed3 k U) _ _ _ (by first | omega | (dsimp only; omega)) ⟨⟨⟨by omega, by omega⟩, by rw [show (k + 1).toNat = k.toNat + 1 by omega, foS_s, show ((k.toNat : Nat) : Int) = k by omega, ← hU]⟩, hW, lv_sub hl [0, 1, 2] rfl⟩
        · refine lv_aload_n hx hb dX12_endDay_75 rfl (lv_at hl 2 rfl) ?_
          refine mr_get K hK hW hin 18 (by decide) lM_state (v := .ref (ix 118)) rfl dX12_endDay_76 ?_
          refine lv_iload_n hx hb dX12_endDay_79 rfl (lv_at hl 0 rfl) ?_
          refine mr_iald K hK hW 18 (by decide) rfl (n := 60) rfl rfl ⟨by omega, by omega⟩ (v := T.1 18 (k)) rfl dX12_endDay_80 ?_
          have w_24 := wf_18 hTs.1.1 (k)
          refine xi_iconst hx hb dX12_endDay_81 ?_
          refine xi_icmp_eq (tgt := 95) hx hb ⟨by omega, by omega⟩ ⟨by omega, by omega⟩ dX12_endDay_82 (by decide) (fun c_25 => ?_) (fun c_25 => ?_)
          · refine lv_aload_n hx hb dX12_endDay_95 rfl (lv_at hl 2 rfl) ?_
            refine mr_get K hK hW hin 17 (by decide) lM_stays (v := .ref (ix 117)) rfl dX12_endDay_96 ?_
            refine lv_iload_n hx hb dX12_endDay_99 rfl (lv_at hl 0 rfl) ?_
            refine mr_zald K hK hW 17 (by decide) rfl (n := 60) rfl rfl ⟨by omega, by omega⟩ (v := T.1 17 (k)) rfl dX12_endDay_100 ?_
            have w_26 := wf_17 hTs.1.1 (k)
            refine xi_if_ne (tgt := 127) hx hb ⟨by omega, by omega⟩ dX12_endDay_101 (by decide) (fun c_27 => ?_) (fun c_27 => ?_)
            · refine xi_iinc (lv' := [(2, .int (iI (k + 1))), (1, .int (iI (y.1))), (0, .ref (ix 100))]) hx hb dX12_endDay_127 hl (k := 0) rfl (by decide) rfl (fun ls hl => ?_)
              refine lv_goto (tgt := 67) hx hb dX12_endDay_130 (by decide) ?_
              have hlc : ((decide (T.1 18 k = 2) || decide (T.1 18 k = 3)) && decide (T.1 17 k = 0) && sOpen T (T.1 11 k) (T.1 0 0)) = false := by simp only [c_25, c_27, decide_true, decide_false, Bool.true_and, Bool.and_true, Bool.false_and, Bool.and_false, Bool.true_or, Bool.or_true, Bool.false_or, Bool.or_false, Bool.not_true, Bool.not_false, eq_self]
              have hls : ed2 k T = T := by rw [ed2, hlc]; rfl
              have hW : gW D B0 s_ (mW cy ix (ed2 k T) (mX (x.1) (x.2.1) (x.2.2) (sGo (decide (S.1 0 0 < 998)) true true)) G) H locs := by rw [hls]; exact hW
              exact ih_lp_5 (k + 1) (ed2 k T) _ _ _ (by first | omega | (dsimp only; omega)) ⟨⟨⟨by omega, by omega⟩, by rw [show (k + 1).toNat = k.toNat + 1 by omega, foS_s, show ((k.toNat : Nat) : Int) = k by omega, ← hT]⟩, hW, lv_sub hl [0, 1, 2] rfl⟩
            · refine lv_aload_n hx hb dX12_endDay_104 rfl (lv_at hl 2 rfl) ?_
              refine lv_aload_n hx hb dX12_endDay_105 rfl (lv_at hl 2 rfl) ?_
              refine mr_get K hK hW hin 11 (by decide) lM_currency (v := .ref (ix 111)) rfl dX12_endDay_106 ?_
              refine lv_iload_n hx hb dX12_endDay_109 rfl (lv_at hl 0 rfl) ?_
              refine mr_iald K hK hW 11 (by decide) rfl (n := 60) rfl rfl ⟨by omega, by omega⟩ (v := T.1 11 (k)) rfl dX12_endDay_110 ?_
              have w_28 := wf_11 hTs.1.1 (k)
              refine lv_aload_n hx hb dX12_endDay_111 rfl (lv_at hl 2 rfl) ?_
              refine mr_get K hK hW hin 0 (by decide) lM_today (v := .int (iI (T.1 0 (0)))) rfl dX12_endDay_112 ?_
              have w_w_29 := wf_0 hTs.1.1 0
              refine g_callV (i := 0) (As := [.int (iI (T.1 11 (k))), .int (iI (T.1 0 (0)))]) (rest := []) K (c_M_isOpen (T.1 11 (k)) (T.1 0 (0)) ⟨by omega, by omega⟩ ⟨by omega, by omega⟩ hTs.1.1) (cwV 2 hts gM_X12_isOpen rfl rfl rfl (by decide +kernel) ⟨Nat.le_of_ble_eq_true rfl, Nat.le_of_ble_eq_true rfl⟩) hK hW (mW_0 _ _ _ _ _) rfl rfl hl.1 rfl (Nat.le_of_ble_eq_true rfl) dX12_endDay_115 ⟨Nat.le_refl _, Nat.le_refl _⟩ (fun v_ f_ H locs hp hW => ?_)
              obtain ⟨hpv, hpe⟩ := hp
              rw [hpe] at hW
              have hpv : v_ = some (.int (iI (bI (sOpen T (T.1 11 (k)) (T.1 0 (0)))))) := hpv
              subst hpv
              refine xi_ifb_eq (tgt := 127) hx hb dX12_endDay_118 (by decide) (fun c_30 => ?_) (fun c_30 => ?_)
              · refine xi_iinc (lv' := [(2, .int (iI (k + 1))), (1, .int (iI (y.1))), (0, .ref (ix 100))]) hx hb dX12_endDay_127 hl (k := 0) rfl (by decide) rfl (fun ls hl => ?_)
                refine lv_goto (tgt := 67) hx hb dX12_endDay_130 (by decide) ?_
                have hlc : ((decide (T.1 18 k = 2) || decide (T.1 18 k = 3)) && decide (T.1 17 k = 0) && sOpen T (T.1 11 k) (T.1 0 0)) = false := by simp only [c_25, c_27, c_30, decide_true, decide_false, Bool.true_and, Bool.and_true, Bool.false_and, Bool.and_false, Bool.true_or, Bool.or_true, Bool.false_or, Bool.or_false, Bool.not_true, Bool.not_false, eq_self]
                have hls : ed2 k T = T := by rw [ed2, hlc]; rfl
                have hW : gW D B0 s_ (mW cy ix (ed2 k T) (mX (x.1) (x.2.1) (x.2.2) (sGo (decide (S.1 0 0 < 998)) true true)) G) H locs := by rw [hls]; exact hW
                exact ih_lp_5 (k + 1) (ed2 k T) _ _ _ (by first | omega | (dsimp only; omega)) ⟨⟨⟨by omega, by omega⟩, by rw [show (k + 1).toNat = k.toNat + 1 by omega, foS_s, show ((k.toNat : Nat) : Int) = k by omega, ← hT]⟩, hW, lv_sub hl [0, 1, 2] rfl⟩
              · refine lv_aload_n hx hb dX12_endDay_121 rfl (lv_at hl 2 rfl) ?_
                refine lv_iload_n hx hb dX12_endDay_122 rfl (lv_at hl 0 rfl) ?_
                refine g_callV (i := 0) (As := [.int (iI (k))]) (rest := []) K (c_M_returns (k) ⟨by omega, by omega⟩ hTs.1.1) (cwV 1 hts gM_X12_returns rfl rfl rfl (by decide +kernel) ⟨Nat.le_of_ble_eq_true rfl, Nat.le_of_ble_eq_true rfl⟩) hK hW (mW_0 _ _ _ _ _) rfl rfl hl.1 rfl (Nat.le_of_ble_eq_true rfl) dX12_endDay_123 ⟨Nat.le_refl _, Nat.le_refl _⟩ (fun v_ f_ H locs hp hW => ?_)
                obtain ⟨hpv, hpe⟩ := hp
                rw [hpe] at hW
                have hpv : v_ = some (.int (iI (sRetN T (k)))) := hpv
                subst hpv
                refine lv_istore_n (lv' := [(3, .int (iI (sRetN T (k)))), (2, .int (iI (k))), (1, .int (iI (y.1))), (0, .ref (ix 100))]) hx hb dX12_endDay_126 rfl hl (by decide) rfl (fun ls hl => ?_)
                refine xi_iinc (lv' := [(2, .int (iI (k + 1))), (3, .int (iI (sRetN T (k)))), (1, .int (iI (y.1))), (0, .ref (ix 100))]) hx hb dX12_endDay_127 hl (k := 1) rfl (by decide) rfl (fun ls hl => ?_)
                refine lv_goto (tgt := 67) hx hb dX12_endDay_130 (by decide) ?_
                have hlc : ((decide (T.1 18 k = 2) || decide (T.1 18 k = 3)) && decide (T.1 17 k = 0) && sOpen T (T.1 11 k) (T.1 0 0)) = true := by simp only [c_25, c_27, c_30, decide_true, decide_false, Bool.true_and, Bool.and_true, Bool.false_and, Bool.and_false, Bool.true_or, Bool.or_true, Bool.false_or, Bool.or_false, Bool.not_true, Bool.not_false, eq_self]
                have hls : ed2 k T = sRet T k := by rw [ed2, hlc]; rfl
                have hW : gW D B0 s_ (mW cy ix (ed2 k T) (mX (x.1) (x.2.1) (x.2.2) (sGo (decide (S.1 0 0 < 998)) true true)) G) H locs := by rw [hls]; exact hW
                exact ih_lp_5 (k + 1) (ed2 k T) _ _ _ (by first | omega | (dsimp only; omega)) ⟨⟨⟨by omega, by omega⟩, by rw [show (k + 1).toNat = k.toNat + 1 by omega, foS_s, show ((k.toNat : Nat) : Int) = k by omega, ← hT]⟩, hW, lv_sub hl [0, 2, 3] rfl⟩
          · refine lv_aload_n hx hb dX12_endDay_85 rfl (lv_at hl 2 rfl) ?_
            refine mr_get K hK hW hin 18 (by decide) lM_state (v := .ref (ix 118)) rfl dX12_endDay_86 ?_
            refine lv_iload_n hx hb dX12_endDay_89 rfl (lv_at hl 0 rfl) ?_
            refine mr_iald K hK hW 18 (by decide) rfl (n := 60) rfl rfl ⟨by omega, by omega⟩ (v := T.1 18 (k)) rfl dX12_endDay_90 ?_
            have w_31 := wf_18 hTs.1.1 (k)
            refine xi_iconst hx hb dX12_endDay_91 ?_
            refine xi_icmp_ne (tgt := 127) hx hb ⟨by omega, by omega⟩ ⟨by omega, by omega⟩ dX12_endDay_92 (by decide) (fun c_32 => ?_) (fun c_32 => ?_)
            · refine xi_iinc (lv' := [(2, .int (iI (k + 1))), (1, .int (iI (y.1))), (0, .ref (ix 100))]) hx hb dX12_endDay_127 hl (k := 0) rfl (by decide) rfl (fun ls hl => ?_)
              refine lv_goto (tgt := 67) hx hb dX12_endDay_130 (by decide) ?_
              have hlc : ((decide (T.1 18 k = 2) || decide (T.1 18 k = 3)) && decide (T.1 17 k = 0) && sOpen T (T.1 11 k) (T.1 0 0)) = false := by simp only [c_25, c_32, decide_true, decide_false, Bool.true_and, Bool.and_true, Bool.false_and, Bool.and_false, Bool.true_or, Bool.or_true, Bool.false_or, Bool.or_false, Bool.not_true, Bool.not_false, eq_self]
              have hls : ed2 k T = T := by rw [ed2, hlc]; rfl
              have hW : gW D B0 s_ (mW cy ix (ed2 k T) (mX (x.1) (x.2.1) (x.2.2) (sGo (decide (S.1 0 0 < 998)) true true)) G) H locs := by rw [hls]; exact hW
              exact ih_lp_5 (k + 1) (ed2 k T) _ _ _ (by first | omega | (dsimp only; omega)) ⟨⟨⟨by omega, by omega⟩, by rw [show (k + 1).toNat = k.toNat + 1 by omega, foS_s, show ((k.toNat : Nat) : Int) = k by omega, ← hT]⟩, hW, lv_sub hl [0, 1, 2] rfl⟩
            · refine lv_aload_n hx hb dX12_endDay_95 rfl (lv_at hl 2 rfl) ?_
              refine mr_get K hK hW hin 17 (by decide) lM_stays (v := .ref (ix 117)) rfl dX12_endDay_96 ?_
              refine lv_iload_n hx hb dX12_endDay_99 rfl (lv_at hl 0 rfl) ?_
              refine mr_zald K hK hW 17 (by decide) rfl (n := 60) rfl rfl ⟨by omega, by omega⟩ (v := T.1 17 (k)) rfl dX12_endDay_100 ?_
              have w_33 := wf_17 hTs.1.1 (k)
              refine xi_if_ne (tgt := 127) hx hb ⟨by omega, by omega⟩ dX12_endDay_101 (by decide) (fun c_34 => ?_) (fun c_34 => ?_)
              · refine xi_iinc (lv' := [(2, .int (iI (k + 1))), (1, .int (iI (y.1))), (0, .ref (ix 100))]) hx hb dX12_endDay_127 hl (k := 0) rfl (by decide) rfl (fun ls hl => ?_)
                refine lv_goto (tgt := 67) hx hb dX12_endDay_130 (by decide) ?_
                have hlc : ((decide (T.1 18 k = 2) || decide (T.1 18 k = 3)) && decide (T.1 17 k = 0) && sOpen T (T.1 11 k) (T.1 0 0)) = false := by simp only [c_25, c_32, c_34, decide_true, decide_false, Bool.true_and, Bool.and_true, Bool.false_and, Bool.and_false, Bool.true_or, Bool.or_true, Bool.false_or, Bool.or_false, Bool.not_true, Bool.not_false, eq_self]
                have hls : ed2 k T = T := by rw [ed2, hlc]; rfl
                have hW : gW D B0 s_ (mW cy ix (ed2 k T) (mX (x.1) (x.2.1) (x.2.2) (sGo (decide (S.1 0 0 < 998)) true true)) G) H locs := by rw [hls]; exact hW
                exact ih_lp_5 (k + 1) (ed2 k T) _ _ _ (by first | omega | (dsimp only; omega)) ⟨⟨⟨by omega, by omega⟩, by rw [show (k + 1).toNat = k.toNat + 1 by omega, foS_s, show ((k.toNat : Nat) : Int) = k by omega, ← hT]⟩, hW, lv_sub hl [0, 1, 2] rfl⟩
              · refine lv_aload_n hx hb dX12_endDay_104 rfl (lv_at hl 2 rfl) ?_
                refine lv_aload_n hx hb dX12_endDay_105 rfl (lv_at hl 2 rfl) ?_
                refine mr_get K hK hW hin 11 (by decide) lM_currency (v := .ref (ix 111)) rfl dX12_endDay_106 ?_
                refine lv_iload_n hx hb dX12_endDay_109 rfl (lv_at hl 0 rfl) ?_
                refine mr_iald K hK hW 11 (by decide) rfl (n := 60) rfl rfl ⟨by omega, by omega⟩ (v := T.1 11 (k)) rfl dX12_endDay_110 ?_
                have w_35 := wf_11 hTs.1.1 (k)
                refine lv_aload_n hx hb dX12_endDay_111 rfl (lv_at hl 2 rfl) ?_
                refine mr_get K hK hW hin 0 (by decide) lM_today (v := .int (iI (T.1 0 (0)))) rfl dX12_endDay_112 ?_
                have w_w_36 := wf_0 hTs.1.1 0
                refine g_callV (i := 0) (As := [.int (iI (T.1 11 (k))), .int (iI (T.1 0 (0)))]) (rest := []) K (c_M_isOpen (T.1 11 (k)) (T.1 0 (0)) ⟨by omega, by omega⟩ ⟨by omega, by omega⟩ hTs.1.1) (cwV 2 hts gM_X12_isOpen rfl rfl rfl (by decide +kernel) ⟨Nat.le_of_ble_eq_true rfl, Nat.le_of_ble_eq_true rfl⟩) hK hW (mW_0 _ _ _ _ _) rfl rfl hl.1 rfl (Nat.le_of_ble_eq_true rfl) dX12_endDay_115 ⟨Nat.le_refl _, Nat.le_refl _⟩ (fun v_ f_ H locs hp hW => ?_)
                obtain ⟨hpv, hpe⟩ := hp
                rw [hpe] at hW
                have hpv : v_ = some (.int (iI (bI (sOpen T (T.1 11 (k)) (T.1 0 (0)))))) := hpv
                subst hpv
                refine xi_ifb_eq (tgt := 127) hx hb dX12_endDay_118 (by decide) (fun c_37 => ?_) (fun c_37 => ?_)
                · refine xi_iinc (lv' := [(2, .int (iI (k + 1))), (1, .int (iI (y.1))), (0, .ref (ix 100))]) hx hb dX12_endDay_127 hl (k := 0) rfl (by decide) rfl (fun ls hl => ?_)
                  refine lv_goto (tgt := 67) hx hb dX12_endDay_130 (by decide) ?_
                  have hlc : ((decide (T.1 18 k = 2) || decide (T.1 18 k = 3)) && decide (T.1 17 k = 0) && sOpen T (T.1 11 k) (T.1 0 0)) = false := by simp only [c_25, c_32, c_34, c_37, decide_true, decide_false, Bool.true_and, Bool.and_true, Bool.false_and, Bool.and_false, Bool.true_or, Bool.or_true, Bool.false_or, Bool.or_false, Bool.not_true, Bool.not_false, eq_self]
                  have hls : ed2 k T = T := by rw [ed2, hlc]; rfl
                  have hW : gW D B0 s_ (mW cy ix (ed2 k T) (mX (x.1) (x.2.1) (x.2.2) (sGo (decide (S.1 0 0 < 998)) true true)) G) H locs := by rw [hls]; exact hW
                  exact ih_lp_5 (k + 1) (ed2 k T) _ _ _ (by first | omega | (dsimp only; omega)) ⟨⟨⟨by omega, by omega⟩, by rw [show (k + 1).toNat = k.toNat + 1 by omega, foS_s, show ((k.toNat : Nat) : Int) = k by omega, ← hT]⟩, hW, lv_sub hl [0, 1, 2] rfl⟩
                · refine lv_aload_n hx hb dX12_endDay_121 rfl (lv_at hl 2 rfl) ?_
                  refine lv_iload_n hx hb dX12_endDay_122 rfl (lv_at hl 0 rfl) ?_
                  refine g_callV (i := 0) (As := [.int (iI (k))]) (rest := []) K (c_M_returns (k) ⟨by omega, by omega⟩ hTs.1.1) (cwV 1 hts gM_X12_returns rfl rfl rfl (by decide +kernel) ⟨Nat.le_of_ble_eq_true rfl, Nat.le_of_ble_eq_true rfl⟩) hK hW (mW_0 _ _ _ _ _) rfl rfl hl.1 rfl (Nat.le_of_ble_eq_true rfl) dX12_endDay_123 ⟨Nat.le_refl _, Nat.le_refl _⟩ (fun v_ f_ H locs hp hW => ?_)
                  obtain ⟨hpv, hpe⟩ := hp
                  rw [hpe] at hW
                  have hpv : v_ = some (.int (iI (sRetN T (k)))) := hpv
                  subst hpv
                  refine lv_istore_n (lv' := [(3, .int (iI (sRetN T (k)))), (2, .int (iI (k))), (1, .int (iI (y.1))), (0, .ref (ix 100))]) hx hb dX12_endDay_126 rfl hl (by decide) rfl (fun ls hl => ?_)
                  refine xi_iinc (lv' := [(2, .int (iI (k + 1))), (3, .int (iI (sRetN T (k)))), (1, .int (iI (y.1))), (0, .ref (ix 100))]) hx hb dX12_endDay_127 hl (k := 1) rfl (by decide) rfl (fun ls hl => ?_)
                  refine lv_goto (tgt := 67) hx hb dX12_endDay_130 (by decide) ?_
                  have hlc : ((decide (T.1 18 k = 2) || decide (T.1 18 k = 3)) && decide (T.1 17 k = 0) && sOpen T (T.1 11 k) (T.1 0 0)) = true := by simp only [c_25, c_32, c_34, c_37, decide_true, decide_false, Bool.true_and, Bool.and_true, Bool.false_and, Bool.and_false, Bool.true_or, Bool.or_true, Bool.false_or, Bool.or_false, Bool.not_true, Bool.not_false, eq_self]
                  have hls : ed2 k T = sRet T k := by rw [ed2, hlc]; rfl
                  have hW : gW D B0 s_ (mW cy ix (ed2 k T) (mX (x.1) (x.2.1) (x.2.2) (sGo (decide (S.1 0 0 < 998)) true true)) G) H locs := by rw [hls]; exact hW
                  exact ih_lp_5 (k + 1) (ed2 k T) _ _ _ (by first | omega | (dsimp only; omega)) ⟨⟨⟨by omega, by omega⟩, by rw [show (k + 1).toNat = k.toNat + 1 by omega, foS_s, show ((k.toNat : Nat) : Int) = k by omega, ← hT]⟩, hW, lv_sub hl [0, 2, 3] rfl⟩
      · refine lv_iload_n hx hb dX12_endDay_35 rfl (lv_at hl 1 rfl) ?_
        refine lv_aload_n hx hb dX12_endDay_36 rfl (lv_at hl 2 rfl) ?_
        refine lv_iload_n hx hb dX12_endDay_37 rfl (lv_at hl 0 rfl) ?_
        refine lv_aload_n hx hb dX12_endDay_38 rfl (lv_at hl 2 rfl) ?_
        refine mr_get K hK hW hin 0 (by decide) lM_today (v := .int (iI ((y.2).1 0 (0)))) rfl dX12_endDay_39 ?_
        have w_w_38 := wf_0 hys.1.1.1 0
        refine g_callV (i := 0) (As := [.int (iI (k)), .int (iI ((y.2).1 0 (0)))]) (rest := [.int (iI (y.1))]) K (c_M_isOpen (k) ((y.2).1 0 (0)) ⟨by omega, by omega⟩ ⟨by omega, by omega⟩ hys.1.1.1) (cwV 2 hts gM_X12_isOpen rfl rfl rfl (by decide +kernel) ⟨Nat.le_of_ble_eq_true rfl, Nat.le_of_ble_eq_true rfl⟩) hK hW (mW_0 _ _ _ _ _) rfl rfl hl.1 rfl (Nat.le_of_ble_eq_true rfl) dX12_endDay_42 ⟨Nat.le_refl _, Nat.le_refl _⟩ (fun v_ f_ H locs hp hW => ?_)
        obtain ⟨hpv, hpe⟩ := hp
        rw [hpe] at hW
        have hpv : v_ = some (.int (iI (bI (sOpen (y.2) (k) ((y.2).1 0 (0)))))) := hpv
        subst hpv
        refine xi_ifb_eq (tgt := 56) hx hb dX12_endDay_45 (by decide) (fun c_39 => ?_) (fun c_39 => ?_)
        · refine xi_iconst hx hb dX12_endDay_56 ?_
          refine xi_iadd hx hb dX12_endDay_57 ?_
          refine lv_istore_n (lv' := [(1, .int (iI (y.1 + 0))), (2, .int (iI (k))), (0, .ref (ix 100))]) hx hb dX12_endDay_58 rfl hl (by decide) rfl (fun ls hl => ?_)
          refine xi_iinc (lv' := [(2, .int (iI (k + 1))), (1, .int (iI (y.1 + 0))), (0, .ref (ix 100))]) hx hb dX12_endDay_59 hl (k := 1) rfl (by decide) rfl (fun ls hl => ?_)
          refine lv_goto (tgt := 30) hx hb dX12_endDay_62 (by decide) ?_
          have hls : ed1 k y = (y.1 + 0, y.2) := by rw [ed1, if_neg (by rw [c_39]; decide)]
          have hW : gW D B0 s_ (mW cy ix (ed1 k y).2 (mX (x.1) (x.2.1) (x.2.2) (sGo (decide (S.1 0 0 < 998)) true true)) G) H locs := by rw [hls]; exact hW
          have hl : lv_has ls 4 [(2, .int (iI (k + 1))), (1, .int (iI ((ed1 k y).1))), (0, .ref (ix 100))] := by rw [hls]; exact lv_sub hl [0, 1, 2] rfl
          exact ih_lp_3 (k + 1) (ed1 k y) ((x.1, x.2.1, x.2.2)) _ _ _ (by first | omega | (dsimp only; omega)) ⟨⟨⟨by omega, by omega⟩, by rw [show (k + 1).toNat = k.toNat + 1 by omega, foS_s, show ((k.toNat : Nat) : Int) = k by omega, ← hy]⟩, hW, lv_sub hl [0, 1, 2] rfl⟩
        · refine lv_aload_n hx hb dX12_endDay_48 rfl (lv_at hl 2 rfl) ?_
          refine lv_iload_n hx hb dX12_endDay_49 rfl (lv_at hl 0 rfl) ?_
          refine g_callV (i := 0) (As := [.int (iI (k))]) (rest := [.int (iI (y.1))]) K (c_M_cutsOff (k) ⟨by omega, by omega⟩ hys.1.1) (cwV 1 hts gM_X12_cutsOff rfl rfl rfl (by decide +kernel) ⟨Nat.le_of_ble_eq_true rfl, Nat.le_of_ble_eq_true rfl⟩) hK hW (mW_0 _ _ _ _ _) rfl rfl hl.1 rfl (Nat.le_of_ble_eq_true rfl) dX12_endDay_50 ⟨Nat.le_refl _, Nat.le_refl _⟩ (fun v_ f_ H locs hp hW => ?_)
          obtain ⟨hpv, J2, a2, q2, hpe⟩ := hp
          rw [hpe] at hW
          subst hpv
          refine lv_goto (tgt := 57) hx hb dX12_endDay_53 (by decide) ?_
          refine xi_iadd hx hb dX12_endDay_57 ?_
          refine lv_istore_n (lv' := [(1, .int (iI (y.1 + ((sCut y.2 (k)).1)))), (2, .int (iI (k))), (0, .ref (ix 100))]) hx hb dX12_endDay_58 rfl hl (by decide) rfl (fun ls hl => ?_)
          refine xi_iinc (lv' := [(2, .int (iI (k + 1))), (1, .int (iI (y.1 + ((sCut y.2 (k)).1)))), (0, .ref (ix 100))]) hx hb dX12_endDay_59 hl (k := 1) rfl (by decide) rfl (fun ls hl => ?_)
          refine lv_goto (tgt := 30) hx hb dX12_endDay_62 (by decide) ?_
          have hls : ed1 k y = (y.1 + (sCut y.2 k).1, (sCut y.2 k).2) := by rw [ed1, if_pos c_39]
          have hW : gW D B0 s_ (mW cy ix (ed1 k y).2 (mX (J2) (a2) (q2) (sGo (decide (S.1 0 0 < 998)) true true)) G) H locs := by rw [hls]; exact hW
          have hl : lv_has ls 4 [(2, .int (iI (k + 1))), (1, .int (iI ((ed1 k y).1))), (0, .ref (ix 100))] := by rw [hls]; exact lv_sub hl [0, 1, 2] rfl
          exact ih_lp_3 (k + 1) (ed1 k y) ((J2, a2, q2)) _ _ _ (by first | omega | (dsimp only; omega)) ⟨⟨⟨by omega, by omega⟩, by rw [show (k + 1).toNat = k.toNat + 1 by omega, foS_s, show ((k.toNat : Nat) : Int) = k by omega, ← hy]⟩, hW, lv_sub hl [0, 1, 2] rfl⟩
    · refine xi_iconst hx hb dX12_endDay_24 ?_
      exact g_iret hx hb hr hW ⟨by rw [pEnd, if_neg (by rw [c_2]; decide)], _, _, _, by rw [pEnd, if_neg (by rw [c_2]; decide)]⟩ dX12_endDay_25 hlk
  refine lv_aload_n hx hb dX12_endDay_1 rfl (lv_at hl 0 rfl) ?_
  refine mr_get K hK hW hin 0 (by decide) lM_today (v := .int (iI (S.1 0 (0)))) rfl dX12_endDay_2 ?_
  have w_w_40 := wf_0 hwf 0
  refine xi_sipush hx hb dX12_endDay_5 (by decide) ?_
  refine xi_icmp_ge (tgt := 15) hx hb ⟨by omega, by omega⟩ ⟨by omega, by omega⟩ dX12_endDay_8 (by decide) (fun c_41 => ?_) (fun c_41 => ?_)
  · refine xi_iconst hx hb dX12_endDay_15 ?_
    exact xi_eq (z' := bI (decide (S.1 0 0 < 998))) (bI_f (by simp only [c_41, Int.not_lt.mpr c_41, decide_true, decide_false, Bool.true_and, Bool.and_true, Bool.false_and, Bool.and_false, Bool.true_or, Bool.or_true, Bool.false_or, Bool.or_false, Bool.not_true, Bool.not_false, eq_self])) (j_1 _ _ _ rfl hW)
  · refine xi_iconst hx hb dX12_endDay_11 ?_
    refine lv_goto (tgt := 16) hx hb dX12_endDay_12 (by decide) ?_
    exact xi_eq (z' := bI (decide (S.1 0 0 < 998))) (bI_t (by simp only [c_41, Int.not_le.mpr c_41, decide_true, decide_false, Bool.true_and, Bool.and_true, Bool.false_and, Bool.and_false, Bool.true_or, Bool.or_true, Bool.false_or, Bool.or_false, Bool.not_true, Bool.not_false, eq_self])) (j_1 _ _ _ rfl hW)
