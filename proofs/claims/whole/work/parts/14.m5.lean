set_option maxHeartbeats 4000000 in
set_option maxRecDepth 100000 in
theorem c_M_reduces {l : Launch} {D : va_G} {cy : Nat → ClassId} {B0 : Nat} {ix : Nat → Nat} {S : ST} {I : Int → Bool} {aM qM : Int → Int64} {tM : Int} {G : gF} (c : Int) (bq : Bool) (hc : 0 ≤ c ∧ c ≤ 2) (ho : okS S) (hI : ∀ j : Int, 0 ≤ j → j < S.1 8 0 → I j = true → S.1 18 j ≠ 4) : gM l yX12_reduces vX12_reduces 3 70 D cy B0 [.ref (ix 100), .int (iI c), .int (iI (bI bq))] (mW cy ix S (mX I aM qM tM) G) (fun r g => r = some (.int (iI (sRedS S I c bq).1)) ∧ ∃ (J : Int → Bool) (a q : Int → Int64), g = mW cy ix (sRedS S I c bq).2 (mX J a q tM) G) 0 0 := by
  refine g_start (cc := cX12_reduces) (maxL := 5) (ret := (some .int)) (by decide) rfl (Nat.le_of_ble_eq_true rfl) ?_
  intro p_ e_ s_ m_ be_ me_ co_ ls H locs K hr hlk hnm hK hW hl
  have hin : ∀ w ∈ wsX120, w ∈ vX12_reduces := wsM_cls
  obtain ⟨hx, hb, hml, hown, hts⟩ := id K
  have hl : lv_has ls 5 [(0, .ref (ix 100)), (1, .int (iI (c))), (2, .int (iI (bI (bq))))] := hl
  have hwf : wf S := ho.1
  refine lv_aload_n hx hb dX12_reduces_0 rfl (lv_at hl 0 rfl) ?_
  refine g_callV (i := 0) (As := []) (rest := []) K (c_M_sums hwf) (cwV 0 hts gM_X12_sums rfl rfl rfl (by decide +kernel) ⟨Nat.le_of_ble_eq_true rfl, Nat.le_of_ble_eq_true rfl⟩) hK hW (mW_0 _ _ _ _ _) rfl rfl hl.1 rfl (Nat.le_of_ble_eq_true rfl) dX12_reduces_1 ⟨Nat.le_refl _, Nat.le_refl _⟩ (fun v_ f_ H locs hp hW => ?_)
  obtain ⟨hpv, a1, q1, hAa1, hQq1, hpe⟩ := hp
  rw [hpe] at hW
  subst hpv
  refine lp_w3 (Wg := fun (H : Heap) (locs : List Loc) (ls : Array Slot) => W p_ l e_ { frames := 3, cells := 0, slots := 0, locals := 70 } s_ m_ ([.ref (ix 100), .int (iI c), .int (iI (bI bq))] : List Value).toArray be_ me_ co_ H locs 0 0 (MQ be_ (gQ D B0 (fun (r : Option Value) (g : gF) => r = some (.int (iI (sRedS S I c bq).1)) ∧ ∃ (J : Int → Bool) (a q : Int → Int64), g = mW cy ix (sRedS S I c bq).2 (mX J a q tM) G)) ([.ref (ix 100), .int (iI c), .int (iI (bI bq))] : List Value).toArray s_ 0 0 (fun q : Nat => B0 ≤ q)) (F0 m_ 4 ls [])) (fun (J : Int → Bool) (a0 : Int → Int64) (q0 : Int → Int64) (H : Heap) (locs : List Loc) (ls : Array Slot) => ((∀ x : Int, 0 ≤ x → x < 21 → a0 x = dS S J (S.1 8 0).toNat x) ∧ (∀ x : Int, 0 ≤ x → x < 108 → q0 x = pS S J (S.1 8 0).toNat x) ∧ (∃ n : Nat, cnB J (nP S) < n ∧ sRedN S c bq n J = sRed S I c bq) ∧ ∀ j : Int, J j = true → I j = true) ∧ gW D B0 s_ (mW cy ix S (mX (J) (a0) (q0) (tM)) G) H locs ∧ lv_has ls 5 [(2, .int (iI (bI (bq)))), (1, .int (iI (c))), (0, .ref (ix 100))]) (fun (J : Int → Bool) (a0 : Int → Int64) (q0 : Int → Int64) => (cnB J (nP S)).toNat) (fun J a0 q0 H locs ls hI ih_lp_1 => ?_) (I) (a1) (q1) _ _ _ ⟨⟨hAa1, hQq1, ⟨61, by have := cnB_le I (nP S); have := nP_le hwf; omega, rfl⟩, fun _ h => h⟩, hW, lv_sub hl [2, 1, 0] rfl⟩
  obtain ⟨hI_lp_1, hW, hl⟩ := hI
  obtain ⟨hA0, hQ0, ⟨n, hn, hrn⟩, hsub⟩ := hI_lp_1
  have hcJ := cnB_nn J (nP S)
  have efit : fiX S a0 q0 c = fit S J c := fiX_congr hc hA0 hQ0
  refine lv_aload_n hx hb dX12_reduces_4 rfl (lv_at hl 2 rfl) ?_
  refine lv_iload_n hx hb dX12_reduces_5 rfl (lv_at hl 1 rfl) ?_
  refine g_callV (i := 0) (As := [.int (iI (c))]) (rest := []) K (c_M_fits (c) ⟨by omega, by omega⟩ hwf) (cwV 1 hts gM_X12_fits rfl rfl rfl (by decide +kernel) ⟨Nat.le_of_ble_eq_true rfl, Nat.le_of_ble_eq_true rfl⟩) hK hW (mW_0 _ _ _ _ _) rfl rfl hl.1 rfl (Nat.le_of_ble_eq_true rfl) dX12_reduces_6 ⟨Nat.le_refl _, Nat.le_refl _⟩ (fun v_ f_ H locs hp hW => ?_)
  obtain ⟨hpv, hpe⟩ := hp
  rw [hpe] at hW
  have hpv : v_ = some (.int (iI (bI (fiX S a0 q0 (c))))) := hpv
  subst hpv
  refine xi_ifb_ne (tgt := 131) hx hb dX12_reduces_9 (by decide) (fun c_2 => ?_) (fun c_2 => ?_)
  · have hR : J = sRed S I c bq := by
      rw [← hrn]
      cases n with
      | zero => omega
      | succ n => unfold sRedN; rw [if_pos (by rw [← efit]; exact c_2)]
    refine lv_aload_n hx hb dX12_reduces_131 rfl (lv_at hl 2 rfl) ?_
    refine g_callV (i := 0) (As := []) (rest := []) K (c_M_settles  ho (fun j h1 h2 h3 => hI j h1 h2 (hsub j h3))) (cwV 0 hts gM_X12_settles rfl rfl rfl (by decide +kernel) ⟨Nat.le_of_ble_eq_true rfl, Nat.le_of_ble_eq_true rfl⟩) hK hW (mW_0 _ _ _ _ _) rfl rfl hl.1 rfl (Nat.le_of_ble_eq_true rfl) dX12_reduces_132 ⟨Nat.le_refl _, Nat.le_refl _⟩ (fun v_ f_ H locs hp hW => ?_)
    obtain ⟨hpv, hpe⟩ := hp
    rw [hpe] at hW
    have hpv : v_ = some (.int (iI (cnB J (S.1 8 0).toNat))) := hpv
    subst hpv
    exact g_iret hx hb hr hW ⟨by rw [hR]; rfl, _, _, _, by rw [hR]; rfl⟩ dX12_reduces_135 hlk
  · have hfit : fit S J c = false := by rw [← efit]; exact c_2
    refine xi_iconst hx hb dX12_reduces_12 ?_
    refine lv_istore_n (lv' := [(3, .int (iI ((-1)))), (2, .int (iI (bI (bq)))), (1, .int (iI (c))), (0, .ref (ix 100))]) hx hb dX12_reduces_13 rfl hl (by decide) rfl (fun ls hl => ?_)
    refine xi_iconst hx hb dX12_reduces_14 ?_
    refine lv_istore (lv' := [(4, .int (iI (5))), (3, .int (iI ((-1)))), (2, .int (iI (bI (bq)))), (1, .int (iI (c))), (0, .ref (ix 100))]) hx hb dX12_reduces_15 hl (by decide) rfl (fun ls hl => ?_)
    refine lp_w2 (Wg := fun (H : Heap) (locs : List Loc) (ls : Array Slot) => W p_ l e_ { frames := 3, cells := 0, slots := 0, locals := 70 } s_ m_ ([.ref (ix 100), .int (iI c), .int (iI (bI bq))] : List Value).toArray be_ me_ co_ H locs 0 0 (MQ be_ (gQ D B0 (fun (r : Option Value) (g : gF) => r = some (.int (iI (sRedS S I c bq).1)) ∧ ∃ (J : Int → Bool) (a q : Int → Int64), g = mW cy ix (sRedS S I c bq).2 (mX J a q tM) G)) ([.ref (ix 100), .int (iI c), .int (iI (bI bq))] : List Value).toArray s_ 0 0 (fun q : Nat => B0 ≤ q)) (F0 m_ 17 ls [])) (fun (y : Int) (r1 : Int) (H : Heap) (locs : List Loc) (ls : Array Slot) => ((-1 ≤ y ∧ y ≤ 5) ∧ (-1 ≤ r1 ∧ r1 ≤ 59) ∧ r1 = o1X S a0 J c bq (5 - y).toNat) ∧ gW D B0 s_ (mW cy ix S (mX (J) (a0) (q0) (tM)) G) H locs ∧ lv_has ls 5 [(4, .int (iI (y))), (3, .int (iI (r1))), (2, .int (iI (bI (bq)))), (1, .int (iI (c))), (0, .ref (ix 100))]) (fun (y : Int) (r1 : Int) => (y + 1).toNat) (fun y r1 H locs ls hI ih_lp_3 => ?_) (5) (-1) _ _ _ ⟨⟨by decide, by decide, rfl⟩, hW, lv_sub hl [0, 1, 2, 3, 4] rfl⟩
    obtain ⟨hI_lp_3, hW, hl⟩ := hI
    obtain ⟨hy, hr1r, hr1⟩ := hI_lp_3
    refine lv_iload hx hb dX12_reduces_17 (lv_at hl 0 rfl) ?_
    refine xi_if_lt (tgt := 51) hx hb ⟨by omega, by omega⟩ dX12_reduces_19 (by decide) (fun c_4 => ?_) (fun c_4 => ?_)
    · have hr1e : r1 = o1X S a0 J c bq 6 := by rw [hr1, show y = -1 by omega]; rfl
      have hsA : shA S a0 c = true → 0 ≤ r1 := by
        intro hs
        have e1 : shA S a0 c = shA S (dS S J (nP S)) c := anB_congr (fun b h1 h2 => shX_congr (hA0 _ (by omega) (by omega)))
        have e2 := o1X_in (q := bq) hwf hc (by rw [← e1]; exact hs)
        have e3 : o1X S a0 J c bq 6 = o1X S (dS S J (nP S)) J c bq 6 := foS_congr (fun k h1 h2 x => by rw [shX_congr (hA0 _ (by omega) (by omega))]; rfl)
        rw [hr1e, e3]; exact e2.1
      refine xi_bipush hx hb dX12_reduces_51 (by decide) ?_
      refine lv_istore (lv' := [(4, .int (iI (35))), (3, .int (iI (r1))), (2, .int (iI (bI (bq)))), (1, .int (iI (c))), (0, .ref (ix 100))]) hx hb dX12_reduces_53 hl (by decide) rfl (fun ls hl => ?_)
      refine lp_w2 (Wg := fun (H : Heap) (locs : List Loc) (ls : Array Slot) => W p_ l e_ { frames := 3, cells := 0, slots := 0, locals := 70 } s_ m_ ([.ref (ix 100), .int (iI c), .int (iI (bI bq))] : List Value).toArray be_ me_ co_ H locs 0 0 (MQ be_ (gQ D B0 (fun (r : Option Value) (g : gF) => r = some (.int (iI (sRedS S I c bq).1)) ∧ ∃ (J : Int → Bool) (a q : Int → Int64), g = mW cy ix (sRedS S I c bq).2 (mX J a q tM) G)) ([.ref (ix 100), .int (iI c), .int (iI (bI bq))] : List Value).toArray s_ 0 0 (fun q : Nat => B0 ≤ q)) (F0 m_ 55 ls [])) (fun (z : Int) (r2 : Int) (H : Heap) (locs : List Loc) (ls : Array Slot) => ((-1 ≤ z ∧ z ≤ 35) ∧ (-1 ≤ r2 ∧ r2 ≤ 59) ∧ ((shA S a0 c = true ∧ z = 35 ∧ r2 = r1 ∧ 0 ≤ r1) ∨ (shA S a0 c = false ∧ r2 = o2X S q0 J c bq (35 - z).toNat))) ∧ gW D B0 s_ (mW cy ix S (mX (J) (a0) (q0) (tM)) G) H locs ∧ lv_has ls 5 [(4, .int (iI (z))), (3, .int (iI (r2))), (2, .int (iI (bI (bq)))), (1, .int (iI (c))), (0, .ref (ix 100))]) (fun (z : Int) (r2 : Int) => (z + 1).toNat) (fun z r2 H locs ls hI ih_lp_5 => ?_) (35) (r1) _ _ _ ⟨⟨by decide, hr1r, by
        cases hs : shA S a0 c with
        | true => exact Or.inl ⟨rfl, rfl, rfl, hsA hs⟩
        | false => exact Or.inr ⟨rfl, by rw [hr1e, o1X_none (by decide) hs]; rfl⟩⟩, hW, lv_sub hl [0, 1, 2, 3, 4] rfl⟩
      obtain ⟨hI_lp_5, hW, hl⟩ := hI
      obtain ⟨hz, hr2r, hr2⟩ := hI_lp_5
      refine lv_iload hx hb dX12_reduces_55 (lv_at hl 0 rfl) ?_
      refine xi_if_lt (tgt := 117) hx hb ⟨by omega, by omega⟩ dX12_reduces_57 (by decide) (fun c_6 => ?_) (fun c_6 => ?_)
      · obtain ⟨out, hot⟩ : ∃ x : Int, x = r2 := ⟨_, rfl⟩
        have hout : out = outO S J c bq := by
          rw [show outO S J c bq = outX S a0 q0 J c bq from (outX_congr hc hA0 hQ0).symm, hot]
          unfold outX
          rcases hr2 with h | h
          · rw [if_pos h.1, h.2.2.1, hr1e]
          · rw [if_neg (by rw [h.1]; decide), h.2, show z = -1 by omega]; rfl
        obtain ⟨hin0, hin1, hin2⟩ := hout ▸ outO_in (q := bq) hwf hc hfit
        rw [← hot] at hl
        have hl : lv_has ls 5 [(4, .int (iI (z))), (3, .int (iI (out))), (2, .int (iI (bI (bq)))), (1, .int (iI (c))), (0, .ref (ix 100))] := hl
        have h8 := nP_le hwf
        refine lv_aload_n hx hb dX12_reduces_117 rfl (lv_at hl 4 rfl) ?_
        refine mr_get K hK hW hin 33 (by decide) lM_isIn (v := .ref (ix 133)) rfl dX12_reduces_118 ?_
        refine lv_iload_n hx hb dX12_reduces_121 rfl (lv_at hl 1 rfl) ?_
        refine xi_iconst hx hb dX12_reduces_122 ?_
        refine mr_zastI K hK hW rfl (v := false) ⟨by omega, by omega⟩ dX12_reduces_123 (fun H locs hW => ?_)
        refine lv_aload_n hx hb dX12_reduces_124 rfl (lv_at hl 4 rfl) ?_
        refine g_callV (i := 0) (As := []) (rest := []) K (c_M_sums hwf) (cwV 0 hts gM_X12_sums rfl rfl rfl (by decide +kernel) ⟨Nat.le_of_ble_eq_true rfl, Nat.le_of_ble_eq_true rfl⟩) hK hW (mW_0 _ _ _ _ _) rfl rfl hl.1 rfl (Nat.le_of_ble_eq_true rfl) dX12_reduces_125 ⟨Nat.le_refl _, Nat.le_refl _⟩ (fun v_ f_ H locs hp hW => ?_)
        obtain ⟨hpv, a2, q2, hAa2, hQq2, hpe⟩ := hp
        rw [hpe] at hW
        subst hpv
        refine lv_goto (tgt := 4) hx hb dX12_reduces_128 (by decide) ?_
        have hcb := cnB_iup (n := nP S) hin0 hin1 hin2
        have hcn := cnB_nn (iup J out false) (nP S)
        exact ih_lp_1 (iup J out false) (a2) (q2) _ _ _ (by first | omega | (dsimp only; omega)) ⟨⟨hAa2, hQq2, by
                cases n with
                | zero => omega
                | succ n =>
                  refine ⟨n, by omega, ?_⟩
                  rw [← hrn]
                  conv => rhs; unfold sRedN
                  rw [if_neg (by rw [hfit]; decide), ← hout], fun j hj => hsub j (by
                  by_cases e : j = out
                  · rw [e, iup_s] at hj; cases hj
                  · rwa [iup_n _ _ e] at hj)⟩, hW, lv_sub hl [2, 3, 4] rfl⟩
      · refine lv_iload_n hx hb dX12_reduces_60 rfl (lv_at hl 1 rfl) ?_
        refine xi_iconst hx hb dX12_reduces_61 ?_
        refine xi_icmp_eq (tgt := 73) hx hb ⟨by omega, by omega⟩ ⟨by omega, by omega⟩ dX12_reduces_62 (by decide) (fun c_7 => ?_) (fun c_7 => ?_)
        · have hs0 : shA S a0 c = false ∧ r2 = o2X S q0 J c bq (35 - z).toNat := by
            rcases hr2 with h | h
            · omega
            · exact h
          have j_8 : ∀ (zJ : Int) (H : Heap) (locs : List Loc), zJ = (if paX S q0 (z / 6) (z % 6) c = true then laS S J (z / 6) (z % 6) bq (nP S) else r2) → gW D B0 s_ (mW cy ix S (mX (J) (a0) (q0) (tM)) G) H locs → W p_ l e_ { frames := 3, cells := 0, slots := 0, locals := 70 } s_ m_ ([.ref (ix 100), .int (iI c), .int (iI (bI bq))] : List Value).toArray be_ me_ co_ H locs 0 0 (MQ be_ (gQ D B0 (fun (r : Option Value) (g : gF) => r = some (.int (iI (sRedS S I c bq).1)) ∧ ∃ (J : Int → Bool) (a q : Int → Int64), g = mW cy ix (sRedS S I c bq).2 (mX J a q tM) G)) ([.ref (ix 100), .int (iI c), .int (iI (bI bq))] : List Value).toArray s_ 0 0 (fun q : Nat => B0 ≤ q)) (F0 m_ 110 ls [.int (iI (zJ))]) := by
            intro zJ H locs hzJ hW
            subst hzJ
            have hjr2 : -1 ≤ (if paX S q0 (z / 6) (z % 6) c = true then laS S J (z / 6) (z % 6) bq (nP S) else r2) ∧ (if paX S q0 (z / 6) (z % 6) c = true then laS S J (z / 6) (z % 6) bq (nP S) else r2) ≤ 59 := by
              have h8 := nP_le hwf
              have hm := laS_mem (S := S) (I := J) (b := z / 6) (u := z % 6) (q := bq) (n := nP S)
              split <;> omega
            refine lv_istore_n (lv' := [(3, .int (iI (if paX S q0 (z / 6) (z % 6) c = true then laS S J (z / 6) (z % 6) bq (nP S) else r2))), (4, .int (iI (z))), (2, .int (iI (bI (bq)))), (1, .int (iI (c))), (0, .ref (ix 100))]) hx hb dX12_reduces_110 rfl hl (by decide) rfl (fun ls hl => ?_)
            refine xi_iinc (lv' := [(4, .int (iI (z + (-1)))), (3, .int (iI (if paX S q0 (z / 6) (z % 6) c = true then laS S J (z / 6) (z % 6) bq (nP S) else r2))), (2, .int (iI (bI (bq)))), (1, .int (iI (c))), (0, .ref (ix 100))]) hx hb dX12_reduces_111 hl (k := 1) rfl (by decide) rfl (fun ls hl => ?_)
            refine lv_goto (tgt := 55) hx hb dX12_reduces_114 (by decide) ?_
            exact ih_lp_5 (z + (-1)) (if paX S q0 (z / 6) (z % 6) c = true then laS S J (z / 6) (z % 6) bq (nP S) else r2) _ _ _ (by first | omega | (dsimp only; omega)) ⟨⟨⟨by omega, by omega⟩, hjr2, Or.inr ⟨hs0.1, by rw [show (35 - (z + (-1))).toNat = (35 - z).toNat + 1 by omega, o2X_s, show (35 - (((35 - z).toNat : Nat) : Int)) = z by omega, ← hs0.2]⟩⟩, hW, lv_sub hl [0, 1, 2, 3, 4] rfl⟩
          refine lv_aload_n hx hb dX12_reduces_73 rfl (lv_at hl 4 rfl) ?_
          refine lv_iload hx hb dX12_reduces_74 (lv_at hl 0 rfl) ?_
          refine xi_bipush hx hb dX12_reduces_76 (by decide) ?_
          refine xi_idiv hx hb ⟨by omega, by omega⟩ ⟨by omega, by omega⟩ dX12_reduces_78 ?_
          refine lv_iload hx hb dX12_reduces_79 (lv_at hl 0 rfl) ?_
          refine xi_bipush hx hb dX12_reduces_81 (by decide) ?_
          refine xi_irem hx hb ⟨by omega, by omega⟩ ⟨by omega, by omega⟩ dX12_reduces_83 ?_
          refine lv_iload_n hx hb dX12_reduces_84 rfl (lv_at hl 3 rfl) ?_
          refine g_callV (i := 0) (As := [.int (iI (z / 6)), .int (iI (z % 6)), .int (iI (c))]) (rest := []) K (c_M_isPassed (z / 6) (z % 6) (c) ⟨by omega, by omega⟩ ⟨by omega, by omega⟩ ⟨by omega, by omega⟩ hwf) (cwV 3 hts gM_X12_isPassed rfl rfl rfl (by decide +kernel) ⟨Nat.le_of_ble_eq_true rfl, Nat.le_of_ble_eq_true rfl⟩) hK hW (mW_0 _ _ _ _ _) rfl rfl hl.1 rfl (Nat.le_of_ble_eq_true rfl) dX12_reduces_85 ⟨Nat.le_refl _, Nat.le_refl _⟩ (fun v_ f_ H locs hp hW => ?_)
          obtain ⟨hpv, hpe⟩ := hp
          rw [hpe] at hW
          have hpv : v_ = some (.int (iI (bI (paX S q0 (z / 6) (z % 6) (c))))) := hpv
          subst hpv
          refine xi_ifb_eq (tgt := 109) hx hb dX12_reduces_88 (by decide) (fun c_9 => ?_) (fun c_9 => ?_)
          · refine lv_iload_n hx hb dX12_reduces_109 rfl (lv_at hl 1 rfl) ?_
            exact xi_eq (z' := if paX S q0 (z / 6) (z % 6) c = true then laS S J (z / 6) (z % 6) bq (nP S) else r2) (by rw [if_neg (by rw [c_9]; decide)]) (j_8 _ _ _ rfl hW)
          · refine lv_aload_n hx hb dX12_reduces_91 rfl (lv_at hl 4 rfl) ?_
            refine lv_iload hx hb dX12_reduces_92 (lv_at hl 0 rfl) ?_
            refine xi_bipush hx hb dX12_reduces_94 (by decide) ?_
            refine xi_idiv hx hb ⟨by omega, by omega⟩ ⟨by omega, by omega⟩ dX12_reduces_96 ?_
            refine lv_iload hx hb dX12_reduces_97 (lv_at hl 0 rfl) ?_
            refine xi_bipush hx hb dX12_reduces_99 (by decide) ?_
            refine xi_irem hx hb ⟨by omega, by omega⟩ ⟨by omega, by omega⟩ dX12_reduces_101 ?_
            refine lv_iload_n hx hb dX12_reduces_102 rfl (lv_at hl 2 rfl) ?_
            refine g_callV (i := 0) (As := [.int (iI (z / 6)), .int (iI (z % 6)), .int (iI (bI (bq)))]) (rest := []) K (c_M_last (z / 6) (z % 6) (bq) ⟨by omega, by omega⟩ ⟨by omega, by omega⟩ hwf) (cwV 3 hts gM_X12_last rfl rfl rfl (by decide +kernel) ⟨Nat.le_of_ble_eq_true rfl, Nat.le_of_ble_eq_true rfl⟩) hK hW (mW_0 _ _ _ _ _) rfl rfl hl.1 rfl (Nat.le_of_ble_eq_true rfl) dX12_reduces_103 ⟨Nat.le_refl _, Nat.le_refl _⟩ (fun v_ f_ H locs hp hW => ?_)
            obtain ⟨hpv, hpe⟩ := hp
            rw [hpe] at hW
            have hpv : v_ = some (.int (iI (laS S J (z / 6) (z % 6) (bq) (nP S)))) := hpv
            subst hpv
            refine lv_goto (tgt := 110) hx hb dX12_reduces_106 (by decide) ?_
            exact xi_eq (z' := if paX S q0 (z / 6) (z % 6) c = true then laS S J (z / 6) (z % 6) bq (nP S) else r2) (by rw [if_pos c_9]) (j_8 _ _ _ rfl hW)
        · refine lv_aload_n hx hb dX12_reduces_65 rfl (lv_at hl 4 rfl) ?_
          refine lv_iload_n hx hb dX12_reduces_66 rfl (lv_at hl 3 rfl) ?_
          refine g_callV (i := 0) (As := [.int (iI (c))]) (rest := []) K (c_M_isShortAny (c) ⟨by omega, by omega⟩ hwf) (cwV 1 hts gM_X12_isShortAny rfl rfl rfl (by decide +kernel) ⟨Nat.le_of_ble_eq_true rfl, Nat.le_of_ble_eq_true rfl⟩) hK hW (mW_0 _ _ _ _ _) rfl rfl hl.1 rfl (Nat.le_of_ble_eq_true rfl) dX12_reduces_67 ⟨Nat.le_refl _, Nat.le_refl _⟩ (fun v_ f_ H locs hp hW => ?_)
          obtain ⟨hpv, hpe⟩ := hp
          rw [hpe] at hW
          have hpv : v_ = some (.int (iI (bI (shA S a0 (c))))) := hpv
          subst hpv
          refine xi_ifb_ne (tgt := 117) hx hb dX12_reduces_70 (by decide) (fun c_10 => ?_) (fun c_10 => ?_)
          · obtain ⟨out, hot⟩ : ∃ x : Int, x = r2 := ⟨_, rfl⟩
            have hout : out = outO S J c bq := by
              rw [show outO S J c bq = outX S a0 q0 J c bq from (outX_congr hc hA0 hQ0).symm, hot]
              unfold outX
              rcases hr2 with h | h
              · rw [if_pos h.1, h.2.2.1, hr1e]
              · rw [h.1] at c_10; cases c_10
            obtain ⟨hin0, hin1, hin2⟩ := hout ▸ outO_in (q := bq) hwf hc hfit
            rw [← hot] at hl
            have hl : lv_has ls 5 [(4, .int (iI (z))), (3, .int (iI (out))), (2, .int (iI (bI (bq)))), (1, .int (iI (c))), (0, .ref (ix 100))] := hl
            have h8 := nP_le hwf
            refine lv_aload_n hx hb dX12_reduces_117 rfl (lv_at hl 4 rfl) ?_
            refine mr_get K hK hW hin 33 (by decide) lM_isIn (v := .ref (ix 133)) rfl dX12_reduces_118 ?_
            refine lv_iload_n hx hb dX12_reduces_121 rfl (lv_at hl 1 rfl) ?_
            refine xi_iconst hx hb dX12_reduces_122 ?_
            refine mr_zastI K hK hW rfl (v := false) ⟨by omega, by omega⟩ dX12_reduces_123 (fun H locs hW => ?_)
            refine lv_aload_n hx hb dX12_reduces_124 rfl (lv_at hl 4 rfl) ?_
            refine g_callV (i := 0) (As := []) (rest := []) K (c_M_sums hwf) (cwV 0 hts gM_X12_sums rfl rfl rfl (by decide +kernel) ⟨Nat.le_of_ble_eq_true rfl, Nat.le_of_ble_eq_true rfl⟩) hK hW (mW_0 _ _ _ _ _) rfl rfl hl.1 rfl (Nat.le_of_ble_eq_true rfl) dX12_reduces_125 ⟨Nat.le_refl _, Nat.le_refl _⟩ (fun v_ f_ H locs hp hW => ?_)
            obtain ⟨hpv, a2, q2, hAa2, hQq2, hpe⟩ := hp
            rw [hpe] at hW
            subst hpv
            refine lv_goto (tgt := 4) hx hb dX12_reduces_128 (by decide) ?_
            have hcb := cnB_iup (n := nP S) hin0 hin1 hin2
            have hcn := cnB_nn (iup J out false) (nP S)
            exact ih_lp_1 (iup J out false) (a2) (q2) _ _ _ (by first | omega | (dsimp only; omega)) ⟨⟨hAa2, hQq2, by
                cases n with
                | zero => omega
                | succ n =>
                  refine ⟨n, by omega, ?_⟩
                  rw [← hrn]
                  conv => rhs; unfold sRedN
                  rw [if_neg (by rw [hfit]; decide), ← hout], fun j hj => hsub j (by
                  by_cases e : j = out
                  · rw [e, iup_s] at hj; cases hj
                  · rwa [iup_n _ _ e] at hj)⟩, hW, lv_sub hl [2, 3, 4] rfl⟩
          · have hs0 : shA S a0 c = false ∧ r2 = o2X S q0 J c bq (35 - z).toNat := by
              rcases hr2 with h | h
              · rw [h.1] at c_10; cases c_10
              · exact h
            have j_11 : ∀ (zJ : Int) (H : Heap) (locs : List Loc), zJ = (if paX S q0 (z / 6) (z % 6) c = true then laS S J (z / 6) (z % 6) bq (nP S) else r2) → gW D B0 s_ (mW cy ix S (mX (J) (a0) (q0) (tM)) G) H locs → W p_ l e_ { frames := 3, cells := 0, slots := 0, locals := 70 } s_ m_ ([.ref (ix 100), .int (iI c), .int (iI (bI bq))] : List Value).toArray be_ me_ co_ H locs 0 0 (MQ be_ (gQ D B0 (fun (r : Option Value) (g : gF) => r = some (.int (iI (sRedS S I c bq).1)) ∧ ∃ (J : Int → Bool) (a q : Int → Int64), g = mW cy ix (sRedS S I c bq).2 (mX J a q tM) G)) ([.ref (ix 100), .int (iI c), .int (iI (bI bq))] : List Value).toArray s_ 0 0 (fun q : Nat => B0 ≤ q)) (F0 m_ 110 ls [.int (iI (zJ))]) := by
              intro zJ H locs hzJ hW
              subst hzJ
              have hjr2 : -1 ≤ (if paX S q0 (z / 6) (z % 6) c = true then laS S J (z / 6) (z % 6) bq (nP S) else r2) ∧ (if paX S q0 (z / 6) (z % 6) c = true then laS S J (z / 6) (z % 6) bq (nP S) else r2) ≤ 59 := by
                have h8 := nP_le hwf
                have hm := laS_mem (S := S) (I := J) (b := z / 6) (u := z % 6) (q := bq) (n := nP S)
                split <;> omega
              refine lv_istore_n (lv' := [(3, .int (iI (if paX S q0 (z / 6) (z % 6) c = true then laS S J (z / 6) (z % 6) bq (nP S) else r2))), (4, .int (iI (z))), (2, .int (iI (bI (bq)))), (1, .int (iI (c))), (0, .ref (ix 100))]) hx hb dX12_reduces_110 rfl hl (by decide) rfl (fun ls hl => ?_)
              refine xi_iinc (lv' := [(4, .int (iI (z + (-1)))), (3, .int (iI (if paX S q0 (z / 6) (z % 6) c = true then laS S J (z / 6) (z % 6) bq (nP S) else r2))), (2, .int (iI (bI (bq)))), (1, .int (iI (c))), (0, .ref (ix 100))]) hx hb dX12_reduces_111 hl (k := 1) rfl (by decide) rfl (fun ls hl => ?_)
              refine lv_goto (tgt := 55) hx hb dX12_reduces_114 (by decide) ?_
              exact ih_lp_5 (z + (-1)) (if paX S q0 (z / 6) (z % 6) c = true then laS S J (z / 6) (z % 6) bq (nP S) else r2) _ _ _ (by first | omega | (dsimp only; omega)) ⟨⟨⟨by omega, by omega⟩, hjr2, Or.inr ⟨hs0.1, by rw [show (35 - (z + (-1))).toNat = (35 - z).toNat + 1 by omega, o2X_s, show (35 - (((35 - z).toNat : Nat) : Int)) = z by omega, ← hs0.2]⟩⟩, hW, lv_sub hl [0, 1, 2, 3, 4] rfl⟩
            refine lv_aload_n hx hb dX12_reduces_73 rfl (lv_at hl 4 rfl) ?_
            refine lv_iload hx hb dX12_reduces_74 (lv_at hl 0 rfl) ?_
            refine xi_bipush hx hb dX12_reduces_76 (by decide) ?_
            refine xi_idiv hx hb ⟨by omega, by omega⟩ ⟨by omega, by omega⟩ dX12_reduces_78 ?_
            refine lv_iload hx hb dX12_reduces_79 (lv_at hl 0 rfl) ?_
            refine xi_bipush hx hb dX12_reduces_81 (by decide) ?_
            refine xi_irem hx hb ⟨by omega, by omega⟩ ⟨by omega, by omega⟩ dX12_reduces_83 ?_
            refine lv_iload_n hx hb dX12_reduces_84 rfl (lv_at hl 3 rfl) ?_
            refine g_callV (i := 0) (As := [.int (iI (z / 6)), .int (iI (z % 6)), .int (iI (c))]) (rest := []) K (c_M_isPassed (z / 6) (z % 6) (c) ⟨by omega, by omega⟩ ⟨by omega, by omega⟩ ⟨by omega, by omega⟩ hwf) (cwV 3 hts gM_X12_isPassed rfl rfl rfl (by decide +kernel) ⟨Nat.le_of_ble_eq_true rfl, Nat.le_of_ble_eq_true rfl⟩) hK hW (mW_0 _ _ _ _ _) rfl rfl hl.1 rfl (Nat.le_of_ble_eq_true rfl) dX12_reduces_85 ⟨Nat.le_refl _, Nat.le_refl _⟩ (fun v_ f_ H locs hp hW => ?_)
            obtain ⟨hpv, hpe⟩ := hp
            rw [hpe] at hW
            have hpv : v_ = some (.int (iI (bI (paX S q0 (z / 6) (z % 6) (c))))) := hpv
            subst hpv
            refine xi_ifb_eq (tgt := 109) hx hb dX12_reduces_88 (by decide) (fun c_12 => ?_) (fun c_12 => ?_)
            · refine lv_iload_n hx hb dX12_reduces_109 rfl (lv_at hl 1 rfl) ?_
              exact xi_eq (z' := if paX S q0 (z / 6) (z % 6) c = true then laS S J (z / 6) (z % 6) bq (nP S) else r2) (by rw [if_neg (by rw [c_12]; decide)]) (j_11 _ _ _ rfl hW)
            · refine lv_aload_n hx hb dX12_reduces_91 rfl (lv_at hl 4 rfl) ?_
              refine lv_iload hx hb dX12_reduces_92 (lv_at hl 0 rfl) ?_
              refine xi_bipush hx hb dX12_reduces_94 (by decide) ?_
              refine xi_idiv hx hb ⟨by omega, by omega⟩ ⟨by omega, by omega⟩ dX12_reduces_96 ?_
              refine lv_iload hx hb dX12_reduces_97 (lv_at hl 0 rfl) ?_
              refine xi_bipush hx hb dX12_reduces_99 (by decide) ?_
              refine xi_irem hx hb ⟨by omega, by omega⟩ ⟨by omega, by omega⟩ dX12_reduces_101 ?_
              refine lv_iload_n hx hb dX12_reduces_102 rfl (lv_at hl 2 rfl) ?_
              refine g_callV (i := 0) (As := [.int (iI (z / 6)), .int (iI (z % 6)), .int (iI (bI (bq)))]) (rest := []) K (c_M_last (z / 6) (z % 6) (bq) ⟨by omega, by omega⟩ ⟨by omega, by omega⟩ hwf) (cwV 3 hts gM_X12_last rfl rfl rfl (by decide +kernel) ⟨Nat.le_of_ble_eq_true rfl, Nat.le_of_ble_eq_true rfl⟩) hK hW (mW_0 _ _ _ _ _) rfl rfl hl.1 rfl (Nat.le_of_ble_eq_true rfl) dX12_reduces_103 ⟨Nat.le_refl _, Nat.le_refl _⟩ (fun v_ f_ H locs hp hW => ?_)
              obtain ⟨hpv, hpe⟩ := hp
              rw [hpe] at hW
              have hpv : v_ = some (.int (iI (laS S J (z / 6) (z % 6) (bq) (nP S)))) := hpv
              subst hpv
              refine lv_goto (tgt := 110) hx hb dX12_reduces_106 (by decide) ?_
              exact xi_eq (z' := if paX S q0 (z / 6) (z % 6) c = true then laS S J (z / 6) (z % 6) bq (nP S) else r2) (by rw [if_pos c_12]) (j_11 _ _ _ rfl hW)
    · have j_13 : ∀ (zJ : Int) (H : Heap) (locs : List Loc), zJ = (if shX S a0 y c = true then laS S J y (-1) bq (nP S) else r1) → gW D B0 s_ (mW cy ix S (mX (J) (a0) (q0) (tM)) G) H locs → W p_ l e_ { frames := 3, cells := 0, slots := 0, locals := 70 } s_ m_ ([.ref (ix 100), .int (iI c), .int (iI (bI bq))] : List Value).toArray be_ me_ co_ H locs 0 0 (MQ be_ (gQ D B0 (fun (r : Option Value) (g : gF) => r = some (.int (iI (sRedS S I c bq).1)) ∧ ∃ (J : Int → Bool) (a q : Int → Int64), g = mW cy ix (sRedS S I c bq).2 (mX J a q tM) G)) ([.ref (ix 100), .int (iI c), .int (iI (bI bq))] : List Value).toArray s_ 0 0 (fun q : Nat => B0 ≤ q)) (F0 m_ 44 ls [.int (iI (zJ))]) := by
        intro zJ H locs hzJ hW
        subst hzJ
        have hjr : -1 ≤ (if shX S a0 y c = true then laS S J y (-1) bq (nP S) else r1) ∧ (if shX S a0 y c = true then laS S J y (-1) bq (nP S) else r1) ≤ 59 := by
          have h8 := nP_le hwf
          have hm := laS_mem (S := S) (I := J) (b := y) (u := -1) (q := bq) (n := nP S)
          split <;> omega
        refine lv_istore_n (lv' := [(3, .int (iI (if shX S a0 y c = true then laS S J y (-1) bq (nP S) else r1))), (4, .int (iI (y))), (2, .int (iI (bI (bq)))), (1, .int (iI (c))), (0, .ref (ix 100))]) hx hb dX12_reduces_44 rfl hl (by decide) rfl (fun ls hl => ?_)
        refine xi_iinc (lv' := [(4, .int (iI (y + (-1)))), (3, .int (iI (if shX S a0 y c = true then laS S J y (-1) bq (nP S) else r1))), (2, .int (iI (bI (bq)))), (1, .int (iI (c))), (0, .ref (ix 100))]) hx hb dX12_reduces_45 hl (k := 1) rfl (by decide) rfl (fun ls hl => ?_)
        refine lv_goto (tgt := 17) hx hb dX12_reduces_48 (by decide) ?_
        exact ih_lp_3 (y + (-1)) (if shX S a0 y c = true then laS S J y (-1) bq (nP S) else r1) _ _ _ (by first | omega | (dsimp only; omega)) ⟨⟨⟨by omega, by omega⟩, hjr, by rw [show (5 - (y + (-1))).toNat = (5 - y).toNat + 1 by omega, o1X_s, show (5 - (((5 - y).toNat : Nat) : Int)) = y by omega, ← hr1]⟩, hW, lv_sub hl [0, 1, 2, 3, 4] rfl⟩
      refine lv_aload_n hx hb dX12_reduces_22 rfl (lv_at hl 4 rfl) ?_
      refine lv_iload hx hb dX12_reduces_23 (lv_at hl 0 rfl) ?_
      refine lv_iload_n hx hb dX12_reduces_25 rfl (lv_at hl 3 rfl) ?_
      refine g_callV (i := 0) (As := [.int (iI (y)), .int (iI (c))]) (rest := []) K (c_M_isShort (y) (c) ⟨by omega, by omega⟩ ⟨by omega, by omega⟩ hwf) (cwV 2 hts gM_X12_isShort rfl rfl rfl (by decide +kernel) ⟨Nat.le_of_ble_eq_true rfl, Nat.le_of_ble_eq_true rfl⟩) hK hW (mW_0 _ _ _ _ _) rfl rfl hl.1 rfl (Nat.le_of_ble_eq_true rfl) dX12_reduces_26 ⟨Nat.le_refl _, Nat.le_refl _⟩ (fun v_ f_ H locs hp hW => ?_)
      obtain ⟨hpv, hpe⟩ := hp
      rw [hpe] at hW
      have hpv : v_ = some (.int (iI (bI (shX S a0 (y) (c))))) := hpv
      subst hpv
      refine xi_ifb_eq (tgt := 43) hx hb dX12_reduces_29 (by decide) (fun c_14 => ?_) (fun c_14 => ?_)
      · refine lv_iload_n hx hb dX12_reduces_43 rfl (lv_at hl 1 rfl) ?_
        exact xi_eq (z' := if shX S a0 y c = true then laS S J y (-1) bq (nP S) else r1) (by rw [if_neg (by rw [c_14]; decide)]) (j_13 _ _ _ rfl hW)
      · refine lv_aload_n hx hb dX12_reduces_32 rfl (lv_at hl 4 rfl) ?_
        refine lv_iload hx hb dX12_reduces_33 (lv_at hl 0 rfl) ?_
        refine xi_iconst hx hb dX12_reduces_35 ?_
        refine lv_iload_n hx hb dX12_reduces_36 rfl (lv_at hl 2 rfl) ?_
        refine g_callV (i := 0) (As := [.int (iI (y)), .int (iI ((-1))), .int (iI (bI (bq)))]) (rest := []) K (c_M_last (y) ((-1)) (bq) ⟨by omega, by omega⟩ ⟨by omega, by omega⟩ hwf) (cwV 3 hts gM_X12_last rfl rfl rfl (by decide +kernel) ⟨Nat.le_of_ble_eq_true rfl, Nat.le_of_ble_eq_true rfl⟩) hK hW (mW_0 _ _ _ _ _) rfl rfl hl.1 rfl (Nat.le_of_ble_eq_true rfl) dX12_reduces_37 ⟨Nat.le_refl _, Nat.le_refl _⟩ (fun v_ f_ H locs hp hW => ?_)
        obtain ⟨hpv, hpe⟩ := hp
        rw [hpe] at hW
        have hpv : v_ = some (.int (iI (laS S J (y) ((-1)) (bq) (nP S)))) := hpv
        subst hpv
        refine lv_goto (tgt := 44) hx hb dX12_reduces_40 (by decide) ?_
        exact xi_eq (z' := if shX S a0 y c = true then laS S J y (-1) bq (nP S) else r1) (by rw [if_pos c_14]) (j_13 _ _ _ rfl hW)
