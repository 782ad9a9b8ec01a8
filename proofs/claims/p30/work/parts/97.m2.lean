/-! the law's areQueues -/
set_option maxHeartbeats 8000000 in
set_option maxRecDepth 100000 in
theorem c_L_areQueues {l : Launch} {D : va_G} {cy : Nat → ClassId} {B0 x0 n : Nat} {q : Nat → Nat} (hn : n < 111) (hst : l.stackTraces = false) {S M : ST} {f : gF} (hI : cI n S) (hk : kI (fun c => M.2 0 c) S) (hM : lM S S M) (hF : wX D cy x0 S (lG cy q M) f) (x : Int) (h_x : rI x) : gM l yL_areQueues vL_areQueues 9 186 D cy B0 [.ref (x0), .ref (q 0), .ref (q 1), .ref (q 2), .ref (q 3), .int (iI (x))] f (fun r g_ => r = some (.int (iI 1)) ∧ wX D cy x0 S (lG cy q M) g_) 800 4800 := by
  refine g_start (cc := cL_areQueues) (maxL := 13) (ret := (some .boolean)) (by decide) rfl (Nat.le_of_ble_eq_true rfl) ?_
  intro p_ e_ s_ m_ be_ me_ co_ ls H locs K hr hlk hnm hK hW hl
  obtain ⟨hx, hb, hml, hown, hts⟩ := id K
  have hl : lv_has ls 13 [(0, .ref (x0)), (1, .ref (q 0)), (2, .ref (q 1)), (3, .ref (q 2)), (4, .ref (q 3)), (5, .int (iI (x)))] := hl
  have g0 := hM.1
  have g1 := hM.2.1
  have w8 := wf_8 hI.1.1.1 0
  have w0 := wf_0 hI.1.1.1 0
  refine lv_iload hx hb dL_areQueues_0 (lv_at hl 5 rfl) ?_
  refine xi_bipush hx hb dL_areQueues_2 (by decide) ?_
  refine g_callS (As := [.int (iI (x)), .int (iI (6))]) (rest := []) K (c_L_low (x) (6) ⟨by omega, by omega⟩ ⟨by omega, by omega⟩) (va_cwS 2 hts (gd_T gL_L_low) rfl rfl rfl (by decide +kernel) ⟨Nat.le_of_ble_eq_true rfl, Nat.le_of_ble_eq_true rfl⟩) hK hW rfl hl.1 rfl (Nat.le_of_ble_eq_true rfl) dL_areQueues_4 ⟨by dsimp only; omega, by dsimp only; omega⟩ (fun v_ f_ H locs hp hW => ?_)
  obtain ⟨z_1, z_1a, z_1b, hpv, hpe⟩ := hp
  rw [hpe] at hW
  subst hpv
  refine lv_istore (lv' := [(6, .int (iI (z_1))), (0, .ref (x0)), (1, .ref (q 0)), (2, .ref (q 1)), (3, .ref (q 2)), (4, .ref (q 3)), (5, .int (iI (x)))]) hx hb dL_areQueues_7 hl (by decide) rfl (fun ls hl => ?_)
  refine lv_iload hx hb dL_areQueues_9 (lv_at hl 6 rfl) ?_
  refine xi_iconst hx hb dL_areQueues_11 ?_
  refine xi_ishr hx hb dL_areQueues_12 (fun y_2 hy_2 => ?_)
  refine xi_iconst hx hb dL_areQueues_13 ?_
  refine g_callS (As := [.int (iI (y_2)), .int (iI (3))]) (rest := []) K (c_L_low (y_2) (3) ⟨by omega, by omega⟩ ⟨by omega, by omega⟩) (va_cwS 2 hts (gd_T gL_L_low) rfl rfl rfl (by decide +kernel) ⟨Nat.le_of_ble_eq_true rfl, Nat.le_of_ble_eq_true rfl⟩) hK hW rfl hl.1 rfl (Nat.le_of_ble_eq_true rfl) dL_areQueues_14 ⟨by dsimp only; omega, by dsimp only; omega⟩ (fun v_ f_ H locs hp hW => ?_)
  obtain ⟨z_3, z_3a, z_3b, hpv, hpe⟩ := hp
  rw [hpe] at hW
  subst hpv
  refine lv_istore (lv' := [(7, .int (iI (z_3))), (6, .int (iI (z_1))), (0, .ref (x0)), (1, .ref (q 0)), (2, .ref (q 1)), (3, .ref (q 2)), (4, .ref (q 3)), (5, .int (iI (x)))]) hx hb dL_areQueues_17 hl (by decide) rfl (fun ls hl => ?_)
  refine xi_iconst hx hb dL_areQueues_19 ?_
  refine lv_istore (lv' := [(8, .int (iI ((-1)))), (7, .int (iI (z_3))), (6, .int (iI (z_1))), (0, .ref (x0)), (1, .ref (q 0)), (2, .ref (q 1)), (3, .ref (q 2)), (4, .ref (q 3)), (5, .int (iI (x)))]) hx hb dL_areQueues_20 hl (by decide) rfl (fun ls hl => ?_)
  refine xi_iconst hx hb dL_areQueues_22 ?_
  refine lv_istore (lv' := [(9, .int (iI (0))), (8, .int (iI ((-1)))), (7, .int (iI (z_3))), (6, .int (iI (z_1))), (0, .ref (x0)), (1, .ref (q 0)), (2, .ref (q 1)), (3, .ref (q 2)), (4, .ref (q 3)), (5, .int (iI (x)))]) hx hb dL_areQueues_23 hl (by decide) rfl (fun ls hl => ?_)
  refine xi_iconst hx hb dL_areQueues_25 ?_
  refine lv_istore (lv' := [(10, .int (iI (1))), (9, .int (iI (0))), (8, .int (iI ((-1)))), (7, .int (iI (z_3))), (6, .int (iI (z_1))), (0, .ref (x0)), (1, .ref (q 0)), (2, .ref (q 1)), (3, .ref (q 2)), (4, .ref (q 3)), (5, .int (iI (x)))]) hx hb dL_areQueues_26 hl (by decide) rfl (fun ls hl => ?_)
  refine lv_aload_n hx hb dL_areQueues_28 rfl (lv_at hl 5 rfl) ?_
  refine lv_iload hx hb dL_areQueues_29 (lv_at hl 4 rfl) ?_
  refine lv_iload hx hb dL_areQueues_31 (lv_at hl 3 rfl) ?_
  refine xi_iconst hx hb dL_areQueues_33 ?_
  refine g_xcallSH (As := [.ref (x0), .int (iI (z_1)), .int (iI (z_3)), .int (iI (0))]) (rest := []) K (c_L_queueAt (by omega) hI hst (lG_n (by decide)) (lG_n (by decide)) (lG_n (by decide)) hF (z_1) (z_3) (0) ⟨by omega, by omega⟩ ⟨by omega, by omega⟩ ⟨by omega, by omega⟩) (vx_cwSW 4 hts (gd_T gL_L_queueAt) rfl rfl rfl (by decide +kernel) ⟨Nat.le_of_ble_eq_true rfl, Nat.le_of_ble_eq_true rfl⟩) hK hW rfl hl.1 rfl (Nat.le_of_ble_eq_true rfl) dL_areQueues_34 ⟨by dsimp only; omega, by dsimp only; omega⟩ (fun v_ f H locs hp hW => ?_)
  rw [a_que (S := S) (b := (z_1)) (c := (z_3)) (p := (0)) (by omega) (by omega) (by omega)] at hp
  obtain ⟨hpv, hF⟩ : v_ = some (.int (iI (qAt S (z_1) (z_3) (0)))) ∧ wX D cy x0 S (lG cy q M) f := hp
  subst hpv
  have hqn := qN_b hI.1.1.1 z_1 z_3
  refine lv_istore (lv' := [(11, .int (iI (qAt S (z_1) (z_3) (0)))), (10, .int (iI (1))), (9, .int (iI (0))), (8, .int (iI ((-1)))), (7, .int (iI (z_3))), (6, .int (iI (z_1))), (0, .ref (x0)), (1, .ref (q 0)), (2, .ref (q 1)), (3, .ref (q 2)), (4, .ref (q 3)), (5, .int (iI (x)))]) hx hb dL_areQueues_37 hl (by decide) rfl (fun ls hl => ?_)
  refine W.widen (k := (fun (p : Int) => 4 + 8 * p.toNat) (0)) (n := (fun (p : Int) => 24 + 48 * p.toNat) (0)) (by dsimp only; omega) (by dsimp only; omega) ?_
  refine lp_v1 (Wg := fun (p : Int) (H : Heap) (locs : List Loc) (ls : Array Slot) => W p_ l e_ { frames := 9, cells := 800, slots := 4800, locals := 186 } s_ m_ ([.ref (x0), .ref (q 0), .ref (q 1), .ref (q 2), .ref (q 3), .int (iI (x))] : List Value).toArray be_ me_ co_ H locs (4 + 8 * p.toNat) (24 + 48 * p.toNat) (MQ be_ (gQ D B0 (fun (r : Option Value) (g_ : gF) => r = some (.int (iI 1)) ∧ wX D cy x0 S (lG cy q M) g_)) ([.ref (x0), .ref (q 0), .ref (q 1), .ref (q 2), .ref (q 3), .int (iI (x))] : List Value).toArray s_ 800 4800 (fun q : Nat => B0 ≤ q)) (F0 m_ 39 ls [])) (fun (p : Int) (H : Heap) (locs : List Loc) (ls : Array Slot) => ∃ (f : gF), (0 ≤ p ∧ p ≤ qN S z_1 z_3) ∧ wX D cy x0 S (lG cy q M) f ∧ gW D B0 s_ f H locs ∧ lv_has ls 13 [(0, .ref (x0)), (1, .ref (q 0)), (2, .ref (q 1)), (3, .ref (q 2)), (4, .ref (q 3)), (5, .int (iI (x))), (6, .int (iI (z_1))), (7, .int (iI (z_3))), (8, .int (iI (qLast S z_1 z_3 p))), (9, .int (iI (p))), (10, .int (iI (1))), (11, .int (iI (qAt S z_1 z_3 p)))]) (fun (p : Int) => (qN S z_1 z_3 - p).toNat) (fun p H locs ls hI_ ih_lp_4 => ?_) (0) H locs ls ⟨f, ⟨by omega, hqn.1⟩, hF, hW, lv_sub hl [6, 7, 8, 9, 10, 11, 5, 4, 3, 2, 1, 0] rfl⟩
  obtain ⟨f, hc_lp_4, hF, hW, hl⟩ := hI_
  have hp1 := hc_lp_4.1
  have hq := q_fact hI.1.1.1 hk.2.2.2.2.2.1 (b := z_1) (c := z_3) (p := p) hc_lp_4.1 hc_lp_4.2
  refine lv_iload hx hb dL_areQueues_39 (lv_at hl 11 rfl) ?_
  refine xi_if_lt (tgt := 169) hx hb ⟨by omega, by omega⟩ dL_areQueues_41 (by decide) (fun c_5 => ?_) (fun c_5 => ?_)
  · refine xi_iconst hx hb dL_areQueues_169 ?_
    refine lv_istore (lv' := [(11, .int (iI (0))), (0, .ref (x0)), (1, .ref (q 0)), (2, .ref (q 1)), (3, .ref (q 2)), (4, .ref (q 3)), (5, .int (iI (x))), (6, .int (iI (z_1))), (7, .int (iI (z_3))), (8, .int (iI (qLast S z_1 z_3 p))), (9, .int (iI (p))), (10, .int (iI (1)))]) hx hb dL_areQueues_170 hl (by decide) rfl (fun ls hl => ?_)
    refine xi_iconst hx hb dL_areQueues_172 ?_
    refine lv_istore (lv' := [(12, .int (iI (0))), (11, .int (iI (0))), (0, .ref (x0)), (1, .ref (q 0)), (2, .ref (q 1)), (3, .ref (q 2)), (4, .ref (q 3)), (5, .int (iI (x))), (6, .int (iI (z_1))), (7, .int (iI (z_3))), (8, .int (iI (qLast S z_1 z_3 p))), (9, .int (iI (p))), (10, .int (iI (1)))]) hx hb dL_areQueues_173 hl (by decide) rfl (fun ls hl => ?_)
    refine W.widen (k := (fun (k : Int) => 4 + 8 * p.toNat + 4 * k.toNat) (0)) (n := (fun (k : Int) => 24 + 48 * p.toNat + 24 * k.toNat) (0)) (by dsimp only; omega) (by dsimp only; omega) ?_
    refine lp_v1 (Wg := fun (k : Int) (H : Heap) (locs : List Loc) (ls : Array Slot) => W p_ l e_ { frames := 9, cells := 800, slots := 4800, locals := 186 } s_ m_ ([.ref (x0), .ref (q 0), .ref (q 1), .ref (q 2), .ref (q 3), .int (iI (x))] : List Value).toArray be_ me_ co_ H locs (4 + 8 * p.toNat + 4 * k.toNat) (24 + 48 * p.toNat + 24 * k.toNat) (MQ be_ (gQ D B0 (fun (r : Option Value) (g_ : gF) => r = some (.int (iI 1)) ∧ wX D cy x0 S (lG cy q M) g_)) ([.ref (x0), .ref (q 0), .ref (q 1), .ref (q 2), .ref (q 3), .int (iI (x))] : List Value).toArray s_ 800 4800 (fun q : Nat => B0 ≤ q)) (F0 m_ 175 ls [])) (fun (k : Int) (H : Heap) (locs : List Loc) (ls : Array Slot) => ∃ (f : gF), (0 ≤ k ∧ k ≤ S.1 8 0) ∧ wX D cy x0 S (lG cy q M) f ∧ gW D B0 s_ f H locs ∧ lv_has ls 13 [(0, .ref (x0)), (1, .ref (q 0)), (2, .ref (q 1)), (3, .ref (q 2)), (4, .ref (q 3)), (5, .int (iI (x))), (6, .int (iI (z_1))), (7, .int (iI (z_3))), (9, .int (iI (p))), (10, .int (iI (1))), (11, .int (iI (dqS S z_1 z_3 k.toNat))), (12, .int (iI (k)))]) (fun (k : Int) => (S.1 8 0 - k).toNat) (fun k H locs ls hI_ ih_lp_6 => ?_) (0) H locs ls ⟨f, ⟨by omega, by omega⟩, hF, hW, lv_sub hl [2, 3, 4, 5, 6, 7, 8, 9, 11, 12, 1, 0] rfl⟩
    obtain ⟨f, hc_lp_6, hF, hW, hl⟩ := hI_
    refine lv_iload hx hb dL_areQueues_175 (lv_at hl 11 rfl) ?_
    refine lv_aload_n hx hb dL_areQueues_177 rfl (lv_at hl 1 rfl) ?_
    refine xi_iconst hx hb dL_areQueues_178 ?_
    refine l_ild hx hb hK hF hW (i := 0) (by decide) (z := 0) (by omega) (by have e : ((lLen 0 : Nat) : Int) = 4 := rfl; omega) dL_areQueues_179 ?_
    refine xi_icmp_ge (tgt := 233) hx hb ⟨by omega, by omega⟩ ⟨by omega, by omega⟩ dL_areQueues_180 (by decide) (fun c_7 => ?_) (fun c_7 => ?_)
    · have hdq : dqS S z_1 z_3 k.toNat = p := by rw [show k = S.1 8 0 by omega, dq_len hI.1.1.1]; omega
      refine lv_iload hx hb dL_areQueues_233 (lv_at hl 9 rfl) ?_
      refine xi_if_eq (tgt := 299) hx hb ⟨by omega, by omega⟩ dL_areQueues_235 (by decide) (fun c_8 => ?_) (fun c_8 => ?_)
      · exfalso
        omega
      · refine lv_iload hx hb dL_areQueues_238 (lv_at hl 10 rfl) ?_
        refine lv_iload hx hb dL_areQueues_240 (lv_at hl 8 rfl) ?_
        refine xi_icmp_ne (tgt := 299) hx hb ⟨by omega, by omega⟩ ⟨by omega, by omega⟩ dL_areQueues_242 (by decide) (fun c_9 => ?_) (fun c_9 => ?_)
        · exfalso
          omega
        · refine lv_aload_n hx hb dL_areQueues_245 rfl (lv_at hl 0 rfl) ?_
          refine lv_iload hx hb dL_areQueues_246 (lv_at hl 6 rfl) ?_
          refine lv_iload hx hb dL_areQueues_248 (lv_at hl 6 rfl) ?_
          refine lv_iload hx hb dL_areQueues_250 (lv_at hl 7 rfl) ?_
          refine g_xcallSH (As := [.ref (x0), .int (iI (z_1)), .int (iI (z_1)), .int (iI (z_3))]) (rest := []) K (c_L_paid (by omega) hI hst (lG_n (by decide)) (lG_n (by decide)) (lG_n (by decide)) hF (z_1) (z_1) (z_3) ⟨by omega, by omega⟩ ⟨by omega, by omega⟩ ⟨by omega, by omega⟩) (vx_cwSW 4 hts (gd_T gL_L_paid) rfl rfl rfl (by decide +kernel) ⟨Nat.le_of_ble_eq_true rfl, Nat.le_of_ble_eq_true rfl⟩) hK hW rfl hl.1 rfl (Nat.le_of_ble_eq_true rfl) dL_areQueues_252 ⟨by dsimp only; omega, by dsimp only; omega⟩ (fun v_ f H locs hp hW => ?_)
          rw [a_paid (S := S) (b := (z_1)) (u := (z_1)) (c := (z_3)) (by omega) (by omega) (by omega)] at hp
          obtain ⟨hpv, hF⟩ : v_ = some (.long (S.2 4 (3 * (6 * (z_1) + (z_1)) + (z_3)))) ∧ wX D cy x0 S (lG cy q M) f := hp
          subst hpv
          refine lv_lconst (v := 0) hx hb dL_areQueues_255 (by decide) ?_
          refine xi_lcmp_ne (tgt := 299) hx hb dL_areQueues_256 dL_areQueues_257 (by decide) (fun c_10 => ?_) (fun c_10 => ?_)
          · exact absurd (hk.2.2.2.2.2.2.1 z_1 z_1 z_3 (by omega) (by omega) (by omega) (by omega) (by omega) (by omega)).2 c_10
          · refine lv_aload_n hx hb dL_areQueues_260 rfl (lv_at hl 0 rfl) ?_
            refine lv_iload hx hb dL_areQueues_261 (lv_at hl 6 rfl) ?_
            refine lv_iload hx hb dL_areQueues_263 (lv_at hl 6 rfl) ?_
            refine xi_iconst hx hb dL_areQueues_265 ?_
            refine xi_iadd hx hb dL_areQueues_266 ?_
            refine xi_bipush hx hb dL_areQueues_267 (by decide) ?_
            refine xi_irem hx hb ⟨by omega, by omega⟩ ⟨by omega, by omega⟩ dL_areQueues_269 ?_
            refine lv_iload hx hb dL_areQueues_270 (lv_at hl 7 rfl) ?_
            refine g_xcallSH (As := [.ref (x0), .int (iI (z_1)), .int (iI ((z_1 + 1) % 6)), .int (iI (z_3))]) (rest := []) K (c_L_paid (by omega) hI hst (lG_n (by decide)) (lG_n (by decide)) (lG_n (by decide)) hF (z_1) ((z_1 + 1) % 6) (z_3) ⟨by omega, by omega⟩ ⟨by omega, by omega⟩ ⟨by omega, by omega⟩) (vx_cwSW 4 hts (gd_T gL_L_paid) rfl rfl rfl (by decide +kernel) ⟨Nat.le_of_ble_eq_true rfl, Nat.le_of_ble_eq_true rfl⟩) hK hW rfl hl.1 rfl (Nat.le_of_ble_eq_true rfl) dL_areQueues_272 ⟨by dsimp only; omega, by dsimp only; omega⟩ (fun v_ f H locs hp hW => ?_)
            rw [a_paid (S := S) (b := (z_1)) (u := ((z_1 + 1) % 6)) (c := (z_3)) (by omega) (by omega) (by omega)] at hp
            obtain ⟨hpv, hF⟩ : v_ = some (.long (S.2 4 (3 * (6 * (z_1) + ((z_1 + 1) % 6)) + (z_3)))) ∧ wX D cy x0 S (lG cy q M) f := hp
            subst hpv
            refine lv_aload_n hx hb dL_areQueues_275 rfl (lv_at hl 0 rfl) ?_
            refine lv_iload hx hb dL_areQueues_276 (lv_at hl 6 rfl) ?_
            refine xi_iconst hx hb dL_areQueues_278 ?_
            refine xi_iadd hx hb dL_areQueues_279 ?_
            refine xi_bipush hx hb dL_areQueues_280 (by decide) ?_
            refine xi_irem hx hb ⟨by omega, by omega⟩ ⟨by omega, by omega⟩ dL_areQueues_282 ?_
            refine lv_iload hx hb dL_areQueues_283 (lv_at hl 6 rfl) ?_
            refine lv_iload hx hb dL_areQueues_285 (lv_at hl 7 rfl) ?_
            refine g_xcallSH (As := [.ref (x0), .int (iI ((z_1 + 1) % 6)), .int (iI (z_1)), .int (iI (z_3))]) (rest := [.long (S.2 4 (3 * (6 * (z_1) + ((z_1 + 1) % 6)) + (z_3)))]) K (c_L_paid (by omega) hI hst (lG_n (by decide)) (lG_n (by decide)) (lG_n (by decide)) hF ((z_1 + 1) % 6) (z_1) (z_3) ⟨by omega, by omega⟩ ⟨by omega, by omega⟩ ⟨by omega, by omega⟩) (vx_cwSW 4 hts (gd_T gL_L_paid) rfl rfl rfl (by decide +kernel) ⟨Nat.le_of_ble_eq_true rfl, Nat.le_of_ble_eq_true rfl⟩) hK hW rfl hl.1 rfl (Nat.le_of_ble_eq_true rfl) dL_areQueues_287 ⟨by dsimp only; omega, by dsimp only; omega⟩ (fun v_ f H locs hp hW => ?_)
            rw [a_paid (S := S) (b := ((z_1 + 1) % 6)) (u := (z_1)) (c := (z_3)) (by omega) (by omega) (by omega)] at hp
            obtain ⟨hpv, hF⟩ : v_ = some (.long (S.2 4 (3 * (6 * ((z_1 + 1) % 6) + (z_1)) + (z_3)))) ∧ wX D cy x0 S (lG cy q M) f := hp
            subst hpv
            refine lv_lneg hx hb dL_areQueues_290 ?_
            refine xi_lcmp_ne (tgt := 299) hx hb dL_areQueues_291 dL_areQueues_292 (by decide) (fun c_11 => ?_) (fun c_11 => ?_)
            · exact absurd (hk.2.2.2.2.2.2.1 z_1 ((z_1 + 1) % 6) z_3 (by omega) (by omega) (by omega) (by omega) (by omega) (by omega)).1 c_11
            · refine xi_iconst hx hb dL_areQueues_295 ?_
              refine lv_goto (tgt := 300) hx hb dL_areQueues_296 (by decide) ?_
              exact W.widen (by omega) (by omega) (g_zret hx hb hr (Or.inr rfl) hW ⟨rfl, hF⟩ dL_areQueues_300 hlk)
    · refine lv_iload hx hb dL_areQueues_183 (lv_at hl 10 rfl) ?_
      refine lv_aload_n hx hb dL_areQueues_185 rfl (lv_at hl 0 rfl) ?_
      refine lv_iload hx hb dL_areQueues_186 (lv_at hl 11 rfl) ?_
      refine g_xcallSH (As := [.ref (x0), .int (iI (k))]) (rest := [.int (iI (dqS S z_1 z_3 k.toNat))]) K (c_L_stateOf (by omega) hI hst (lG_n (by decide)) (lG_n (by decide)) (lG_n (by decide)) hF (k) ⟨by omega, by omega⟩) (vx_cwSW 2 hts (gd_T gL_L_stateOf) rfl rfl rfl (by decide +kernel) ⟨Nat.le_of_ble_eq_true rfl, Nat.le_of_ble_eq_true rfl⟩) hK hW rfl hl.1 rfl (Nat.le_of_ble_eq_true rfl) dL_areQueues_188 ⟨by dsimp only; omega, by dsimp only; omega⟩ (fun v_ f H locs hp hW => ?_)
      rw [a_state (S := S) (k := (k)) (by omega) (by omega)] at hp
      obtain ⟨hpv, hF⟩ : v_ = some (.int (iI (S.1 18 (k)))) ∧ wX D cy x0 S (lG cy q M) f := hp
      subst hpv
      have w_12 := wf_18 hI.1.1.1 (k)
      have hm3 := hM.2.2.2.1 k (by omega) (by omega)
      have u9 := wf_9 hI.1.1.1 k
      have u10 := wf_10 hI.1.1.1 k
      have u11 := wf_11 hI.1.1.1 k
      have uT := hk.2.2.2.2.2.2.2.1 k (by omega) (by omega)
      refine xi_iconst hx hb dL_areQueues_191 ?_
      refine xi_icmp_ne (tgt := 223) hx hb ⟨by omega, by omega⟩ ⟨by omega, by omega⟩ dL_areQueues_192 (by decide) (fun c_13 => ?_) (fun c_13 => ?_)
      · refine xi_iconst hx hb dL_areQueues_223 ?_
        refine xi_iadd hx hb dL_areQueues_224 ?_
        refine lv_istore (lv' := [(11, .int (iI ((dqS S z_1 z_3 k.toNat) + 0))), (0, .ref (x0)), (1, .ref (q 0)), (2, .ref (q 1)), (3, .ref (q 2)), (4, .ref (q 3)), (5, .int (iI (x))), (6, .int (iI (z_1))), (7, .int (iI (z_3))), (9, .int (iI (p))), (10, .int (iI (1))), (12, .int (iI (k)))]) hx hb dL_areQueues_225 hl (by decide) rfl (fun ls hl => ?_)
        refine xi_iinc (lv' := [(12, .int (iI (k + 1))), (11, .int (iI ((dqS S z_1 z_3 k.toNat) + 0))), (0, .ref (x0)), (1, .ref (q 0)), (2, .ref (q 1)), (3, .ref (q 2)), (4, .ref (q 3)), (5, .int (iI (x))), (6, .int (iI (z_1))), (7, .int (iI (z_3))), (9, .int (iI (p))), (10, .int (iI (1)))]) hx hb dL_areQueues_227 hl (k := 11) rfl (by decide) rfl (fun ls hl => ?_)
        refine lv_goto (tgt := 175) hx hb dL_areQueues_230 (by decide) ?_
        have es := dq_0 (S := S) (b := z_1) (c := z_3) (k := k) (by omega) (by omega)
        rw [es] at hl
        exact W.widen (by omega) (by omega) (ih_lp_6 (k + 1) H locs ls (by omega) ⟨f, ⟨by omega, by omega⟩, hF, hW, lv_sub hl [2, 3, 4, 5, 6, 7, 8, 9, 10, 11, 1, 0] rfl⟩)
      · refine lv_aload_n hx hb dL_areQueues_195 rfl (lv_at hl 2 rfl) ?_
        refine lv_iload hx hb dL_areQueues_196 (lv_at hl 11 rfl) ?_
        refine l_ild hx hb hK hF hW (i := 1) (by decide) (z := k) (by omega) (by have e : ((lLen 1 : Nat) : Int) = 60 := rfl; omega) dL_areQueues_198 ?_
        refine xi_bipush hx hb dL_areQueues_199 (by decide) ?_
        refine xi_idiv hx hb ⟨by omega, by omega⟩ ⟨by omega, by omega⟩ dL_areQueues_201 ?_
        refine lv_iload hx hb dL_areQueues_202 (lv_at hl 6 rfl) ?_
        refine xi_icmp_ne (tgt := 223) hx hb ⟨by omega, by omega⟩ ⟨by omega, by omega⟩ dL_areQueues_204 (by decide) (fun c_14 => ?_) (fun c_14 => ?_)
        · refine xi_iconst hx hb dL_areQueues_223 ?_
          refine xi_iadd hx hb dL_areQueues_224 ?_
          refine lv_istore (lv' := [(11, .int (iI ((dqS S z_1 z_3 k.toNat) + 0))), (0, .ref (x0)), (1, .ref (q 0)), (2, .ref (q 1)), (3, .ref (q 2)), (4, .ref (q 3)), (5, .int (iI (x))), (6, .int (iI (z_1))), (7, .int (iI (z_3))), (9, .int (iI (p))), (10, .int (iI (1))), (12, .int (iI (k)))]) hx hb dL_areQueues_225 hl (by decide) rfl (fun ls hl => ?_)
          refine xi_iinc (lv' := [(12, .int (iI (k + 1))), (11, .int (iI ((dqS S z_1 z_3 k.toNat) + 0))), (0, .ref (x0)), (1, .ref (q 0)), (2, .ref (q 1)), (3, .ref (q 2)), (4, .ref (q 3)), (5, .int (iI (x))), (6, .int (iI (z_1))), (7, .int (iI (z_3))), (9, .int (iI (p))), (10, .int (iI (1)))]) hx hb dL_areQueues_227 hl (k := 11) rfl (by decide) rfl (fun ls hl => ?_)
          refine lv_goto (tgt := 175) hx hb dL_areQueues_230 (by decide) ?_
          have es := dq_0 (S := S) (b := z_1) (c := z_3) (k := k) (by omega) (by omega)
          rw [es] at hl
          exact W.widen (by omega) (by omega) (ih_lp_6 (k + 1) H locs ls (by omega) ⟨f, ⟨by omega, by omega⟩, hF, hW, lv_sub hl [2, 3, 4, 5, 6, 7, 8, 9, 10, 11, 1, 0] rfl⟩)
        · refine lv_aload_n hx hb dL_areQueues_207 rfl (lv_at hl 3 rfl) ?_
          refine lv_iload hx hb dL_areQueues_208 (lv_at hl 11 rfl) ?_
          refine l_ild hx hb hK hF hW (i := 2) (by decide) (z := k) (by omega) (by have e : ((lLen 2 : Nat) : Int) = 60 := rfl; omega) dL_areQueues_210 ?_
          refine xi_bipush hx hb dL_areQueues_211 (by decide) ?_
          refine xi_idiv hx hb ⟨by omega, by omega⟩ ⟨by omega, by omega⟩ dL_areQueues_213 ?_
          refine lv_iload hx hb dL_areQueues_214 (lv_at hl 7 rfl) ?_
          refine xi_icmp_ne (tgt := 223) hx hb ⟨by omega, by omega⟩ ⟨by omega, by omega⟩ dL_areQueues_216 (by decide) (fun c_15 => ?_) (fun c_15 => ?_)
          · refine xi_iconst hx hb dL_areQueues_223 ?_
            refine xi_iadd hx hb dL_areQueues_224 ?_
            refine lv_istore (lv' := [(11, .int (iI ((dqS S z_1 z_3 k.toNat) + 0))), (0, .ref (x0)), (1, .ref (q 0)), (2, .ref (q 1)), (3, .ref (q 2)), (4, .ref (q 3)), (5, .int (iI (x))), (6, .int (iI (z_1))), (7, .int (iI (z_3))), (9, .int (iI (p))), (10, .int (iI (1))), (12, .int (iI (k)))]) hx hb dL_areQueues_225 hl (by decide) rfl (fun ls hl => ?_)
            refine xi_iinc (lv' := [(12, .int (iI (k + 1))), (11, .int (iI ((dqS S z_1 z_3 k.toNat) + 0))), (0, .ref (x0)), (1, .ref (q 0)), (2, .ref (q 1)), (3, .ref (q 2)), (4, .ref (q 3)), (5, .int (iI (x))), (6, .int (iI (z_1))), (7, .int (iI (z_3))), (9, .int (iI (p))), (10, .int (iI (1)))]) hx hb dL_areQueues_227 hl (k := 11) rfl (by decide) rfl (fun ls hl => ?_)
            refine lv_goto (tgt := 175) hx hb dL_areQueues_230 (by decide) ?_
            have es := dq_0 (S := S) (b := z_1) (c := z_3) (k := k) (by omega) (by omega)
            rw [es] at hl
            exact W.widen (by omega) (by omega) (ih_lp_6 (k + 1) H locs ls (by omega) ⟨f, ⟨by omega, by omega⟩, hF, hW, lv_sub hl [2, 3, 4, 5, 6, 7, 8, 9, 10, 11, 1, 0] rfl⟩)
          · refine xi_iconst hx hb dL_areQueues_219 ?_
            refine lv_goto (tgt := 224) hx hb dL_areQueues_220 (by decide) ?_
            refine xi_iadd hx hb dL_areQueues_224 ?_
            refine lv_istore (lv' := [(11, .int (iI ((dqS S z_1 z_3 k.toNat) + 1))), (0, .ref (x0)), (1, .ref (q 0)), (2, .ref (q 1)), (3, .ref (q 2)), (4, .ref (q 3)), (5, .int (iI (x))), (6, .int (iI (z_1))), (7, .int (iI (z_3))), (9, .int (iI (p))), (10, .int (iI (1))), (12, .int (iI (k)))]) hx hb dL_areQueues_225 hl (by decide) rfl (fun ls hl => ?_)
            refine xi_iinc (lv' := [(12, .int (iI (k + 1))), (11, .int (iI ((dqS S z_1 z_3 k.toNat) + 1))), (0, .ref (x0)), (1, .ref (q 0)), (2, .ref (q 1)), (3, .ref (q 2)), (4, .ref (q 3)), (5, .int (iI (x))), (6, .int (iI (z_1))), (7, .int (iI (z_3))), (9, .int (iI (p))), (10, .int (iI (1)))]) hx hb dL_areQueues_227 hl (k := 11) rfl (by decide) rfl (fun ls hl => ?_)
            refine lv_goto (tgt := 175) hx hb dL_areQueues_230 (by decide) ?_
            have es := dq_1 (S := S) (b := z_1) (c := z_3) (k := k) (by omega) (by omega) (by omega) (by omega)
            rw [es] at hl
            exact W.widen (by omega) (by omega) (ih_lp_6 (k + 1) H locs ls (by omega) ⟨f, ⟨by omega, by omega⟩, hF, hW, lv_sub hl [2, 3, 4, 5, 6, 7, 8, 9, 10, 11, 1, 0] rfl⟩)
  · refine lv_iload hx hb dL_areQueues_44 (lv_at hl 10 rfl) ?_
    refine xi_if_eq (tgt := 169) hx hb ⟨by omega, by omega⟩ dL_areQueues_46 (by decide) (fun c_16 => ?_) (fun c_16 => ?_)
    · exfalso
      omega
    · refine lv_aload_n hx hb dL_areQueues_49 rfl (lv_at hl 0 rfl) ?_
      refine lv_iload hx hb dL_areQueues_50 (lv_at hl 11 rfl) ?_
      refine g_xcallSH (As := [.ref (x0), .int (iI (qAt S z_1 z_3 p))]) (rest := []) K (c_L_stateOf (by omega) hI hst (lG_n (by decide)) (lG_n (by decide)) (lG_n (by decide)) hF (qAt S z_1 z_3 p) ⟨by omega, by omega⟩) (vx_cwSW 2 hts (gd_T gL_L_stateOf) rfl rfl rfl (by decide +kernel) ⟨Nat.le_of_ble_eq_true rfl, Nat.le_of_ble_eq_true rfl⟩) hK hW rfl hl.1 rfl (Nat.le_of_ble_eq_true rfl) dL_areQueues_52 ⟨by dsimp only; omega, by dsimp only; omega⟩ (fun v_ f H locs hp hW => ?_)
      rw [a_state (S := S) (k := (qAt S z_1 z_3 p)) (by omega) (by omega)] at hp
      obtain ⟨hpv, hF⟩ : v_ = some (.int (iI (S.1 18 (qAt S z_1 z_3 p)))) ∧ wX D cy x0 S (lG cy q M) f := hp
      subst hpv
      have hm := hM.2.2.2.1 (qAt S z_1 z_3 p) (by omega) (by omega)
      have v10 := wf_10 hI.1.1.1 (qAt S z_1 z_3 p)
      have vT := hk.2.2.2.2.2.2.2.1 (qAt S z_1 z_3 p) (by omega) (by omega)
      refine xi_iconst hx hb dL_areQueues_55 ?_
      refine xi_icmp_ne (tgt := 144) hx hb ⟨by omega, by omega⟩ ⟨by omega, by omega⟩ dL_areQueues_56 (by decide) (fun c_17 => ?_) (fun c_17 => ?_)
      · exfalso
        omega
      · refine lv_aload_n hx hb dL_areQueues_59 rfl (lv_at hl 2 rfl) ?_
        refine lv_iload hx hb dL_areQueues_60 (lv_at hl 11 rfl) ?_
        refine l_ild hx hb hK hF hW (i := 1) (by decide) (z := qAt S z_1 z_3 p) (by omega) (by have e : ((lLen 1 : Nat) : Int) = 60 := rfl; omega) dL_areQueues_62 ?_
        refine xi_bipush hx hb dL_areQueues_63 (by decide) ?_
        refine xi_idiv hx hb ⟨by omega, by omega⟩ ⟨by omega, by omega⟩ dL_areQueues_65 ?_
        refine lv_iload hx hb dL_areQueues_66 (lv_at hl 6 rfl) ?_
        refine xi_icmp_ne (tgt := 144) hx hb ⟨by omega, by omega⟩ ⟨by omega, by omega⟩ dL_areQueues_68 (by decide) (fun c_18 => ?_) (fun c_18 => ?_)
        · exfalso
          omega
        · refine lv_aload_n hx hb dL_areQueues_71 rfl (lv_at hl 3 rfl) ?_
          refine lv_iload hx hb dL_areQueues_72 (lv_at hl 11 rfl) ?_
          refine l_ild hx hb hK hF hW (i := 2) (by decide) (z := qAt S z_1 z_3 p) (by omega) (by have e : ((lLen 2 : Nat) : Int) = 60 := rfl; omega) dL_areQueues_74 ?_
          refine xi_bipush hx hb dL_areQueues_75 (by decide) ?_
          refine xi_idiv hx hb ⟨by omega, by omega⟩ ⟨by omega, by omega⟩ dL_areQueues_77 ?_
          refine lv_iload hx hb dL_areQueues_78 (lv_at hl 7 rfl) ?_
          refine xi_icmp_ne (tgt := 144) hx hb ⟨by omega, by omega⟩ ⟨by omega, by omega⟩ dL_areQueues_80 (by decide) (fun c_19 => ?_) (fun c_19 => ?_)
          · exfalso
            omega
          · refine lv_aload hx hb dL_areQueues_83 (lv_at hl 4 rfl) ?_
            refine lv_iload hx hb dL_areQueues_85 (lv_at hl 11 rfl) ?_
            refine l_ild hx hb hK hF hW (i := 3) (by decide) (z := qAt S z_1 z_3 p) (by omega) (by have e : ((lLen 3 : Nat) : Int) = 60 := rfl; omega) dL_areQueues_87 ?_
            refine xi_iconst hx hb dL_areQueues_88 ?_
            refine xi_irem hx hb ⟨by omega, by omega⟩ ⟨by omega, by omega⟩ dL_areQueues_89 ?_
            refine xi_iconst hx hb dL_areQueues_90 ?_
            refine xi_icmp_ne (tgt := 144) hx hb ⟨by omega, by omega⟩ ⟨by omega, by omega⟩ dL_areQueues_91 (by decide) (fun c_20 => ?_) (fun c_20 => ?_)
            · exfalso
              omega
            · refine lv_iload hx hb dL_areQueues_94 (lv_at hl 8 rfl) ?_
              refine xi_if_lt (tgt := 140) hx hb ⟨by omega, by omega⟩ dL_areQueues_96 (by decide) (fun c_21 => ?_) (fun c_21 => ?_)
              · refine xi_iconst hx hb dL_areQueues_140 ?_
                refine lv_goto (tgt := 145) hx hb dL_areQueues_141 (by decide) ?_
                refine lv_istore (lv' := [(10, .int (iI (1))), (0, .ref (x0)), (1, .ref (q 0)), (2, .ref (q 1)), (3, .ref (q 2)), (4, .ref (q 3)), (5, .int (iI (x))), (6, .int (iI (z_1))), (7, .int (iI (z_3))), (8, .int (iI (qLast S z_1 z_3 p))), (9, .int (iI (p))), (11, .int (iI (qAt S z_1 z_3 p)))]) hx hb dL_areQueues_145 hl (by decide) rfl (fun ls hl => ?_)
                refine lv_iload hx hb dL_areQueues_147 (lv_at hl 11 rfl) ?_
                refine lv_istore (lv' := [(8, .int (iI (qAt S z_1 z_3 p))), (10, .int (iI (1))), (0, .ref (x0)), (1, .ref (q 0)), (2, .ref (q 1)), (3, .ref (q 2)), (4, .ref (q 3)), (5, .int (iI (x))), (6, .int (iI (z_1))), (7, .int (iI (z_3))), (9, .int (iI (p))), (11, .int (iI (qAt S z_1 z_3 p)))]) hx hb dL_areQueues_149 hl (by decide) rfl (fun ls hl => ?_)
                refine xi_iinc (lv' := [(9, .int (iI (p + 1))), (8, .int (iI (qAt S z_1 z_3 p))), (10, .int (iI (1))), (0, .ref (x0)), (1, .ref (q 0)), (2, .ref (q 1)), (3, .ref (q 2)), (4, .ref (q 3)), (5, .int (iI (x))), (6, .int (iI (z_1))), (7, .int (iI (z_3))), (11, .int (iI (qAt S z_1 z_3 p)))]) hx hb dL_areQueues_151 hl (k := 10) rfl (by decide) rfl (fun ls hl => ?_)
                refine lv_aload_n hx hb dL_areQueues_154 rfl (lv_at hl 3 rfl) ?_
                refine lv_iload hx hb dL_areQueues_155 (lv_at hl 9 rfl) ?_
                refine lv_iload hx hb dL_areQueues_157 (lv_at hl 10 rfl) ?_
                refine lv_iload hx hb dL_areQueues_159 (lv_at hl 0 rfl) ?_
                refine g_xcallSH (As := [.ref (x0), .int (iI (z_1)), .int (iI (z_3)), .int (iI (p + 1))]) (rest := []) K (c_L_queueAt (by omega) hI hst (lG_n (by decide)) (lG_n (by decide)) (lG_n (by decide)) hF (z_1) (z_3) (p + 1) ⟨by omega, by omega⟩ ⟨by omega, by omega⟩ ⟨by omega, by omega⟩) (vx_cwSW 4 hts (gd_T gL_L_queueAt) rfl rfl rfl (by decide +kernel) ⟨Nat.le_of_ble_eq_true rfl, Nat.le_of_ble_eq_true rfl⟩) hK hW rfl hl.1 rfl (Nat.le_of_ble_eq_true rfl) dL_areQueues_161 ⟨by dsimp only; omega, by dsimp only; omega⟩ (fun v_ f H locs hp hW => ?_)
                rw [a_que (S := S) (b := (z_1)) (c := (z_3)) (p := (p + 1)) (by omega) (by omega) (by omega)] at hp
                obtain ⟨hpv, hF⟩ : v_ = some (.int (iI (qAt S (z_1) (z_3) (p + 1)))) ∧ wX D cy x0 S (lG cy q M) f := hp
                subst hpv
                refine lv_istore (lv' := [(11, .int (iI (qAt S (z_1) (z_3) (p + 1)))), (9, .int (iI (p + 1))), (8, .int (iI (qAt S z_1 z_3 p))), (10, .int (iI (1))), (0, .ref (x0)), (1, .ref (q 0)), (2, .ref (q 1)), (3, .ref (q 2)), (4, .ref (q 3)), (5, .int (iI (x))), (6, .int (iI (z_1))), (7, .int (iI (z_3)))]) hx hb dL_areQueues_164 hl (by decide) rfl (fun ls hl => ?_)
                refine lv_goto (tgt := 39) hx hb dL_areQueues_166 (by decide) ?_
                have eL := qLast_s S z_1 z_3 (p := p) (by omega)
                rw [eL] at hl
                exact W.widen (by omega) (by omega) (ih_lp_4 (p + 1) H locs ls (by omega) ⟨f, ⟨by omega, by omega⟩, hF, hW, lv_sub hl [4, 5, 6, 7, 8, 9, 10, 11, 2, 1, 3, 0] rfl⟩)
              · have hm2 := hM.2.2.2.1 (qLast S z_1 z_3 p) (by omega) (by omega)
                refine lv_aload hx hb dL_areQueues_99 (lv_at hl 4 rfl) ?_
                refine lv_iload hx hb dL_areQueues_101 (lv_at hl 11 rfl) ?_
                refine l_ild hx hb hK hF hW (i := 3) (by decide) (z := qAt S z_1 z_3 p) (by omega) (by have e : ((lLen 3 : Nat) : Int) = 60 := rfl; omega) dL_areQueues_103 ?_
                refine xi_iconst hx hb dL_areQueues_104 ?_
                refine xi_idiv hx hb ⟨by omega, by omega⟩ ⟨by omega, by omega⟩ dL_areQueues_105 ?_
                refine lv_aload hx hb dL_areQueues_106 (lv_at hl 4 rfl) ?_
                refine lv_iload hx hb dL_areQueues_108 (lv_at hl 8 rfl) ?_
                refine l_ild hx hb hK hF hW (i := 3) (by decide) (z := qLast S z_1 z_3 p) (by omega) (by have e : ((lLen 3 : Nat) : Int) = 60 := rfl; omega) dL_areQueues_110 ?_
                refine xi_iconst hx hb dL_areQueues_111 ?_
                refine xi_idiv hx hb ⟨by omega, by omega⟩ ⟨by omega, by omega⟩ dL_areQueues_112 ?_
                refine xi_icmp_lt (tgt := 140) hx hb ⟨by omega, by omega⟩ ⟨by omega, by omega⟩ dL_areQueues_113 (by decide) (fun c_22 => ?_) (fun c_22 => ?_)
                · refine xi_iconst hx hb dL_areQueues_140 ?_
                  refine lv_goto (tgt := 145) hx hb dL_areQueues_141 (by decide) ?_
                  refine lv_istore (lv' := [(10, .int (iI (1))), (0, .ref (x0)), (1, .ref (q 0)), (2, .ref (q 1)), (3, .ref (q 2)), (4, .ref (q 3)), (5, .int (iI (x))), (6, .int (iI (z_1))), (7, .int (iI (z_3))), (8, .int (iI (qLast S z_1 z_3 p))), (9, .int (iI (p))), (11, .int (iI (qAt S z_1 z_3 p)))]) hx hb dL_areQueues_145 hl (by decide) rfl (fun ls hl => ?_)
                  refine lv_iload hx hb dL_areQueues_147 (lv_at hl 11 rfl) ?_
                  refine lv_istore (lv' := [(8, .int (iI (qAt S z_1 z_3 p))), (10, .int (iI (1))), (0, .ref (x0)), (1, .ref (q 0)), (2, .ref (q 1)), (3, .ref (q 2)), (4, .ref (q 3)), (5, .int (iI (x))), (6, .int (iI (z_1))), (7, .int (iI (z_3))), (9, .int (iI (p))), (11, .int (iI (qAt S z_1 z_3 p)))]) hx hb dL_areQueues_149 hl (by decide) rfl (fun ls hl => ?_)
                  refine xi_iinc (lv' := [(9, .int (iI (p + 1))), (8, .int (iI (qAt S z_1 z_3 p))), (10, .int (iI (1))), (0, .ref (x0)), (1, .ref (q 0)), (2, .ref (q 1)), (3, .ref (q 2)), (4, .ref (q 3)), (5, .int (iI (x))), (6, .int (iI (z_1))), (7, .int (iI (z_3))), (11, .int (iI (qAt S z_1 z_3 p)))]) hx hb dL_areQueues_151 hl (k := 10) rfl (by decide) rfl (fun ls hl => ?_)
                  refine lv_aload_n hx hb dL_areQueues_154 rfl (lv_at hl 3 rfl) ?_
                  refine lv_iload hx hb dL_areQueues_155 (lv_at hl 9 rfl) ?_
                  refine lv_iload hx hb dL_areQueues_157 (lv_at hl 10 rfl) ?_
                  refine lv_iload hx hb dL_areQueues_159 (lv_at hl 0 rfl) ?_
                  refine g_xcallSH (As := [.ref (x0), .int (iI (z_1)), .int (iI (z_3)), .int (iI (p + 1))]) (rest := []) K (c_L_queueAt (by omega) hI hst (lG_n (by decide)) (lG_n (by decide)) (lG_n (by decide)) hF (z_1) (z_3) (p + 1) ⟨by omega, by omega⟩ ⟨by omega, by omega⟩ ⟨by omega, by omega⟩) (vx_cwSW 4 hts (gd_T gL_L_queueAt) rfl rfl rfl (by decide +kernel) ⟨Nat.le_of_ble_eq_true rfl, Nat.le_of_ble_eq_true rfl⟩) hK hW rfl hl.1 rfl (Nat.le_of_ble_eq_true rfl) dL_areQueues_161 ⟨by dsimp only; omega, by dsimp only; omega⟩ (fun v_ f H locs hp hW => ?_)
                  rw [a_que (S := S) (b := (z_1)) (c := (z_3)) (p := (p + 1)) (by omega) (by omega) (by omega)] at hp
                  obtain ⟨hpv, hF⟩ : v_ = some (.int (iI (qAt S (z_1) (z_3) (p + 1)))) ∧ wX D cy x0 S (lG cy q M) f := hp
                  subst hpv
                  refine lv_istore (lv' := [(11, .int (iI (qAt S (z_1) (z_3) (p + 1)))), (9, .int (iI (p + 1))), (8, .int (iI (qAt S z_1 z_3 p))), (10, .int (iI (1))), (0, .ref (x0)), (1, .ref (q 0)), (2, .ref (q 1)), (3, .ref (q 2)), (4, .ref (q 3)), (5, .int (iI (x))), (6, .int (iI (z_1))), (7, .int (iI (z_3)))]) hx hb dL_areQueues_164 hl (by decide) rfl (fun ls hl => ?_)
                  refine lv_goto (tgt := 39) hx hb dL_areQueues_166 (by decide) ?_
                  have eL := qLast_s S z_1 z_3 (p := p) (by omega)
                  rw [eL] at hl
                  exact W.widen (by omega) (by omega) (ih_lp_4 (p + 1) H locs ls (by omega) ⟨f, ⟨by omega, by omega⟩, hF, hW, lv_sub hl [4, 5, 6, 7, 8, 9, 10, 11, 2, 1, 3, 0] rfl⟩)
                · refine lv_aload hx hb dL_areQueues_116 (lv_at hl 4 rfl) ?_
                  refine lv_iload hx hb dL_areQueues_118 (lv_at hl 11 rfl) ?_
                  refine l_ild hx hb hK hF hW (i := 3) (by decide) (z := qAt S z_1 z_3 p) (by omega) (by have e : ((lLen 3 : Nat) : Int) = 60 := rfl; omega) dL_areQueues_120 ?_
                  refine xi_iconst hx hb dL_areQueues_121 ?_
                  refine xi_idiv hx hb ⟨by omega, by omega⟩ ⟨by omega, by omega⟩ dL_areQueues_122 ?_
                  refine lv_aload hx hb dL_areQueues_123 (lv_at hl 4 rfl) ?_
                  refine lv_iload hx hb dL_areQueues_125 (lv_at hl 8 rfl) ?_
                  refine l_ild hx hb hK hF hW (i := 3) (by decide) (z := qLast S z_1 z_3 p) (by omega) (by have e : ((lLen 3 : Nat) : Int) = 60 := rfl; omega) dL_areQueues_127 ?_
                  refine xi_iconst hx hb dL_areQueues_128 ?_
                  refine xi_idiv hx hb ⟨by omega, by omega⟩ ⟨by omega, by omega⟩ dL_areQueues_129 ?_
                  refine xi_icmp_ne (tgt := 144) hx hb ⟨by omega, by omega⟩ ⟨by omega, by omega⟩ dL_areQueues_130 (by decide) (fun c_23 => ?_) (fun c_23 => ?_)
                  · exfalso
                    omega
                  · refine lv_iload hx hb dL_areQueues_133 (lv_at hl 11 rfl) ?_
                    refine lv_iload hx hb dL_areQueues_135 (lv_at hl 8 rfl) ?_
                    refine xi_icmp_le (tgt := 144) hx hb ⟨by omega, by omega⟩ ⟨by omega, by omega⟩ dL_areQueues_137 (by decide) (fun c_24 => ?_) (fun c_24 => ?_)
                    · exfalso
                      omega
                    · refine xi_iconst hx hb dL_areQueues_140 ?_
                      refine lv_goto (tgt := 145) hx hb dL_areQueues_141 (by decide) ?_
                      refine lv_istore (lv' := [(10, .int (iI (1))), (0, .ref (x0)), (1, .ref (q 0)), (2, .ref (q 1)), (3, .ref (q 2)), (4, .ref (q 3)), (5, .int (iI (x))), (6, .int (iI (z_1))), (7, .int (iI (z_3))), (8, .int (iI (qLast S z_1 z_3 p))), (9, .int (iI (p))), (11, .int (iI (qAt S z_1 z_3 p)))]) hx hb dL_areQueues_145 hl (by decide) rfl (fun ls hl => ?_)
                      refine lv_iload hx hb dL_areQueues_147 (lv_at hl 11 rfl) ?_
                      refine lv_istore (lv' := [(8, .int (iI (qAt S z_1 z_3 p))), (10, .int (iI (1))), (0, .ref (x0)), (1, .ref (q 0)), (2, .ref (q 1)), (3, .ref (q 2)), (4, .ref (q 3)), (5, .int (iI (x))), (6, .int (iI (z_1))), (7, .int (iI (z_3))), (9, .int (iI (p))), (11, .int (iI (qAt S z_1 z_3 p)))]) hx hb dL_areQueues_149 hl (by decide) rfl (fun ls hl => ?_)
                      refine xi_iinc (lv' := [(9, .int (iI (p + 1))), (8, .int (iI (qAt S z_1 z_3 p))), (10, .int (iI (1))), (0, .ref (x0)), (1, .ref (q 0)), (2, .ref (q 1)), (3, .ref (q 2)), (4, .ref (q 3)), (5, .int (iI (x))), (6, .int (iI (z_1))), (7, .int (iI (z_3))), (11, .int (iI (qAt S z_1 z_3 p)))]) hx hb dL_areQueues_151 hl (k := 10) rfl (by decide) rfl (fun ls hl => ?_)
                      refine lv_aload_n hx hb dL_areQueues_154 rfl (lv_at hl 3 rfl) ?_
                      refine lv_iload hx hb dL_areQueues_155 (lv_at hl 9 rfl) ?_
                      refine lv_iload hx hb dL_areQueues_157 (lv_at hl 10 rfl) ?_
                      refine lv_iload hx hb dL_areQueues_159 (lv_at hl 0 rfl) ?_
                      refine g_xcallSH (As := [.ref (x0), .int (iI (z_1)), .int (iI (z_3)), .int (iI (p + 1))]) (rest := []) K (c_L_queueAt (by omega) hI hst (lG_n (by decide)) (lG_n (by decide)) (lG_n (by decide)) hF (z_1) (z_3) (p + 1) ⟨by omega, by omega⟩ ⟨by omega, by omega⟩ ⟨by omega, by omega⟩) (vx_cwSW 4 hts (gd_T gL_L_queueAt) rfl rfl rfl (by decide +kernel) ⟨Nat.le_of_ble_eq_true rfl, Nat.le_of_ble_eq_true rfl⟩) hK hW rfl hl.1 rfl (Nat.le_of_ble_eq_true rfl) dL_areQueues_161 ⟨by dsimp only; omega, by dsimp only; omega⟩ (fun v_ f H locs hp hW => ?_)
                      rw [a_que (S := S) (b := (z_1)) (c := (z_3)) (p := (p + 1)) (by omega) (by omega) (by omega)] at hp
                      obtain ⟨hpv, hF⟩ : v_ = some (.int (iI (qAt S (z_1) (z_3) (p + 1)))) ∧ wX D cy x0 S (lG cy q M) f := hp
                      subst hpv
                      refine lv_istore (lv' := [(11, .int (iI (qAt S (z_1) (z_3) (p + 1)))), (9, .int (iI (p + 1))), (8, .int (iI (qAt S z_1 z_3 p))), (10, .int (iI (1))), (0, .ref (x0)), (1, .ref (q 0)), (2, .ref (q 1)), (3, .ref (q 2)), (4, .ref (q 3)), (5, .int (iI (x))), (6, .int (iI (z_1))), (7, .int (iI (z_3)))]) hx hb dL_areQueues_164 hl (by decide) rfl (fun ls hl => ?_)
                      refine lv_goto (tgt := 39) hx hb dL_areQueues_166 (by decide) ?_
                      have eL := qLast_s S z_1 z_3 (p := p) (by omega)
                      rw [eL] at hl
                      exact W.widen (by omega) (by omega) (ih_lp_4 (p + 1) H locs ls (by omega) ⟨f, ⟨by omega, by omega⟩, hF, hW, lv_sub hl [4, 5, 6, 7, 8, 9, 10, 11, 2, 1, 3, 0] rfl⟩)
