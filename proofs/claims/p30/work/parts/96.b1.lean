/-! the law's sends -/
set_option maxHeartbeats 8000000 in
set_option maxRecDepth 100000 in
theorem c_L_sends {l : Launch} {D : va_G} {cy : Nat → ClassId} {B0 x0 n : Nat} {q : Nat → Nat} (hn : n < 110) (hst : l.stackTraces = false) {S M : ST} {f : gF} (hI : cI n S) (hk : kI (fun c => M.2 0 c) S) (hM : lM S S M) (hd : S.1 0 0 ≤ n) (hF : wX D cy x0 S (lG cy q M) f) (x y : Int) (h_x : rI x) (h_y : rI y) : gM l yL_sends vL_sends 15 361 D cy B0 [.ref (x0), .ref (q 0), .ref (q 1), .ref (q 2), .ref (q 3), .int (iI (x)), .int (iI (y))] f (fun r g_ => r = some (.int (iI 1)) ∧ ∃ (T M1 : ST), wX D cy x0 T (lG cy q M1) g_ ∧ actN n S T M1) 300 27500 := by
  refine g_start (cc := cL_sends) (maxL := 17) (ret := (some .boolean)) (by decide) rfl (Nat.le_of_ble_eq_true rfl) ?_
  intro p_ e_ s_ m_ be_ me_ co_ ls H locs K hr hlk hnm hK hW hl
  obtain ⟨hx, hb, hml, hown, hts⟩ := id K
  have hl : lv_has ls 17 [(0, .ref (x0)), (1, .ref (q 0)), (2, .ref (q 1)), (3, .ref (q 2)), (4, .ref (q 3)), (5, .int (iI (x))), (6, .int (iI (y)))] := hl
  have g0 := hM.1
  have g1 := hM.2.1
  have w8 := wf_8 hI.1.1.1 0
  have w0 := wf_0 hI.1.1.1 0
  refine lv_iload hx hb dL_sends_0 (lv_at hl 5 rfl) ?_
  refine xi_bipush hx hb dL_sends_2 (by decide) ?_
  refine g_callS (As := [.int (iI (x)), .int (iI (6))]) (rest := []) K (c_L_low (x) (6) ⟨by omega, by omega⟩ ⟨by omega, by omega⟩) (va_cwS 2 hts (gd_T gL_L_low) rfl rfl rfl (by decide +kernel) ⟨Nat.le_of_ble_eq_true rfl, Nat.le_of_ble_eq_true rfl⟩) hK hW rfl hl.1 rfl (Nat.le_of_ble_eq_true rfl) dL_sends_4 ⟨by dsimp only; omega, by dsimp only; omega⟩ (fun v_ f_ H locs hp hW => ?_)
  obtain ⟨z_1, z_1a, z_1b, hpv, hpe⟩ := hp
  rw [hpe] at hW
  subst hpv
  refine lv_istore (lv' := [(7, .int (iI (z_1))), (0, .ref (x0)), (1, .ref (q 0)), (2, .ref (q 1)), (3, .ref (q 2)), (4, .ref (q 3)), (5, .int (iI (x))), (6, .int (iI (y)))]) hx hb dL_sends_7 hl (by decide) rfl (fun ls hl => ?_)
  refine lv_iload hx hb dL_sends_9 (lv_at hl 0 rfl) ?_
  refine xi_iconst hx hb dL_sends_11 ?_
  refine xi_iadd hx hb dL_sends_12 ?_
  refine lv_iload hx hb dL_sends_13 (lv_at hl 6 rfl) ?_
  refine xi_iconst hx hb dL_sends_15 ?_
  refine xi_ishr hx hb dL_sends_16 (fun y_2 hy_2 => ?_)
  refine xi_iconst hx hb dL_sends_17 ?_
  refine g_callS (As := [.int (iI (y_2)), .int (iI (5))]) (rest := [.int (iI (z_1 + 1))]) K (c_L_low (y_2) (5) ⟨by omega, by omega⟩ ⟨by omega, by omega⟩) (va_cwS 2 hts (gd_T gL_L_low) rfl rfl rfl (by decide +kernel) ⟨Nat.le_of_ble_eq_true rfl, Nat.le_of_ble_eq_true rfl⟩) hK hW rfl hl.1 rfl (Nat.le_of_ble_eq_true rfl) dL_sends_18 ⟨by dsimp only; omega, by dsimp only; omega⟩ (fun v_ f_ H locs hp hW => ?_)
  obtain ⟨z_3, z_3a, z_3b, hpv, hpe⟩ := hp
  rw [hpe] at hW
  subst hpv
  refine xi_iadd hx hb dL_sends_21 ?_
  refine xi_bipush hx hb dL_sends_22 (by decide) ?_
  refine xi_irem hx hb ⟨by omega, by omega⟩ ⟨by omega, by omega⟩ dL_sends_24 ?_
  refine lv_istore (lv' := [(8, .int (iI (((z_1 + 1) + z_3) % 6))), (7, .int (iI (z_1))), (0, .ref (x0)), (1, .ref (q 0)), (2, .ref (q 1)), (3, .ref (q 2)), (4, .ref (q 3)), (5, .int (iI (x))), (6, .int (iI (y)))]) hx hb dL_sends_25 hl (by decide) rfl (fun ls hl => ?_)
  refine lv_iload hx hb dL_sends_27 (lv_at hl 7 rfl) ?_
  refine xi_bipush hx hb dL_sends_29 (by decide) ?_
  refine xi_ishr hx hb dL_sends_31 (fun y_4 hy_4 => ?_)
  refine xi_bipush hx hb dL_sends_32 (by decide) ?_
  refine g_callS (As := [.int (iI (y_4)), .int (iI (12))]) (rest := []) K (c_L_low (y_4) (12) ⟨by omega, by omega⟩ ⟨by omega, by omega⟩) (va_cwS 2 hts (gd_T gL_L_low) rfl rfl rfl (by decide +kernel) ⟨Nat.le_of_ble_eq_true rfl, Nat.le_of_ble_eq_true rfl⟩) hK hW rfl hl.1 rfl (Nat.le_of_ble_eq_true rfl) dL_sends_34 ⟨by dsimp only; omega, by dsimp only; omega⟩ (fun v_ f_ H locs hp hW => ?_)
  obtain ⟨z_5, z_5a, z_5b, hpv, hpe⟩ := hp
  rw [hpe] at hW
  subst hpv
  refine lv_istore (lv' := [(9, .int (iI (z_5))), (8, .int (iI (((z_1 + 1) + z_3) % 6))), (7, .int (iI (z_1))), (0, .ref (x0)), (1, .ref (q 0)), (2, .ref (q 1)), (3, .ref (q 2)), (4, .ref (q 3)), (5, .int (iI (x))), (6, .int (iI (y)))]) hx hb dL_sends_37 hl (by decide) rfl (fun ls hl => ?_)
  refine lv_iload hx hb dL_sends_39 (lv_at hl 9 rfl) ?_
  refine xi_iconst hx hb dL_sends_41 ?_
  refine g_callS (As := [.int (iI (y)), .int (iI (3))]) (rest := []) K (c_L_low (y) (3) ⟨by omega, by omega⟩ ⟨by omega, by omega⟩) (va_cwS 2 hts (gd_T gL_L_low) rfl rfl rfl (by decide +kernel) ⟨Nat.le_of_ble_eq_true rfl, Nat.le_of_ble_eq_true rfl⟩) hK hW rfl hl.1 rfl (Nat.le_of_ble_eq_true rfl) dL_sends_42 ⟨by dsimp only; omega, by dsimp only; omega⟩ (fun v_ f_ H locs hp hW => ?_)
  obtain ⟨z_6, z_6a, z_6b, hpv, hpe⟩ := hp
  rw [hpe] at hW
  subst hpv
  refine lv_istore (lv' := [(10, .int (iI (z_6))), (9, .int (iI (z_5))), (8, .int (iI (((z_1 + 1) + z_3) % 6))), (7, .int (iI (z_1))), (0, .ref (x0)), (1, .ref (q 0)), (2, .ref (q 1)), (3, .ref (q 2)), (4, .ref (q 3)), (5, .int (iI (x))), (6, .int (iI (y)))]) hx hb dL_sends_45 hl (by decide) rfl (fun ls hl => ?_)
  refine xi_iconst hx hb dL_sends_47 ?_
  refine lv_iload hx hb dL_sends_48 (lv_at hl 10 rfl) ?_
  refine xi_iconst hx hb dL_sends_50 ?_
  refine xi_ishr hx hb dL_sends_51 (fun y_7 hy_7 => ?_)
  refine xi_bipush hx hb dL_sends_52 (by decide) ?_
  refine g_callS (As := [.int (iI (y_7)), .int (iI (50))]) (rest := [.int (iI (1))]) K (c_L_low (y_7) (50) ⟨by omega, by omega⟩ ⟨by omega, by omega⟩) (va_cwS 2 hts (gd_T gL_L_low) rfl rfl rfl (by decide +kernel) ⟨Nat.le_of_ble_eq_true rfl, Nat.le_of_ble_eq_true rfl⟩) hK hW rfl hl.1 rfl (Nat.le_of_ble_eq_true rfl) dL_sends_54 ⟨by dsimp only; omega, by dsimp only; omega⟩ (fun v_ f_ H locs hp hW => ?_)
  obtain ⟨z_8, z_8a, z_8b, hpv, hpe⟩ := hp
  rw [hpe] at hW
  subst hpv
  refine xi_iadd hx hb dL_sends_57 ?_
  refine lv_istore (lv' := [(11, .int (iI (1 + z_8))), (10, .int (iI (z_6))), (9, .int (iI (z_5))), (8, .int (iI (((z_1 + 1) + z_3) % 6))), (7, .int (iI (z_1))), (0, .ref (x0)), (1, .ref (q 0)), (2, .ref (q 1)), (3, .ref (q 2)), (4, .ref (q 3)), (5, .int (iI (x))), (6, .int (iI (y)))]) hx hb dL_sends_58 hl (by decide) rfl (fun ls hl => ?_)
  refine lv_iload hx hb dL_sends_60 (lv_at hl 11 rfl) ?_
  refine xi_bipush hx hb dL_sends_62 (by decide) ?_
  refine xi_ishr hx hb dL_sends_64 (fun y_9 hy_9 => ?_)
  refine xi_iconst hx hb dL_sends_65 ?_
  refine g_callS (As := [.int (iI (y_9)), .int (iI (3))]) (rest := []) K (c_L_low (y_9) (3) ⟨by omega, by omega⟩ ⟨by omega, by omega⟩) (va_cwS 2 hts (gd_T gL_L_low) rfl rfl rfl (by decide +kernel) ⟨Nat.le_of_ble_eq_true rfl, Nat.le_of_ble_eq_true rfl⟩) hK hW rfl hl.1 rfl (Nat.le_of_ble_eq_true rfl) dL_sends_66 ⟨by dsimp only; omega, by dsimp only; omega⟩ (fun v_ f_ H locs hp hW => ?_)
  obtain ⟨z_10, z_10a, z_10b, hpv, hpe⟩ := hp
  rw [hpe] at hW
  subst hpv
  refine lv_istore (lv' := [(12, .int (iI (z_10))), (11, .int (iI (1 + z_8))), (10, .int (iI (z_6))), (9, .int (iI (z_5))), (8, .int (iI (((z_1 + 1) + z_3) % 6))), (7, .int (iI (z_1))), (0, .ref (x0)), (1, .ref (q 0)), (2, .ref (q 1)), (3, .ref (q 2)), (4, .ref (q 3)), (5, .int (iI (x))), (6, .int (iI (y)))]) hx hb dL_sends_69 hl (by decide) rfl (fun ls hl => ?_)
  refine lv_iload hx hb dL_sends_71 (lv_at hl 12 rfl) ?_
  refine xi_bipush hx hb dL_sends_73 (by decide) ?_
  refine xi_ishr hx hb dL_sends_75 (fun y_11 hy_11 => ?_)
  refine xi_iconst hx hb dL_sends_76 ?_
  refine g_callS (As := [.int (iI (y_11)), .int (iI (4))]) (rest := []) K (c_L_low (y_11) (4) ⟨by omega, by omega⟩ ⟨by omega, by omega⟩) (va_cwS 2 hts (gd_T gL_L_low) rfl rfl rfl (by decide +kernel) ⟨Nat.le_of_ble_eq_true rfl, Nat.le_of_ble_eq_true rfl⟩) hK hW rfl hl.1 rfl (Nat.le_of_ble_eq_true rfl) dL_sends_77 ⟨by dsimp only; omega, by dsimp only; omega⟩ (fun v_ f_ H locs hp hW => ?_)
  obtain ⟨z_12, z_12a, z_12b, hpv, hpe⟩ := hp
  rw [hpe] at hW
  subst hpv
  have j_13 : ∀ (uR : Bool) (f : gF) (H : Heap) (locs : List Loc), (True) → wX D cy x0 S (lG cy q M) f → gW D B0 s_ f H locs → W p_ l e_ { frames := 15, cells := 300, slots := 27500, locals := 361 } s_ m_ ([.ref (x0), .ref (q 0), .ref (q 1), .ref (q 2), .ref (q 3), .int (iI (x)), .int (iI (y))] : List Value).toArray be_ me_ co_ H locs (0) (0) (MQ be_ (gQ D B0 (fun (r : Option Value) (g_ : gF) => r = some (.int (iI 1)) ∧ ∃ (T M1 : ST), wX D cy x0 T (lG cy q M1) g_ ∧ actN n S T M1)) ([.ref (x0), .ref (q 0), .ref (q 1), .ref (q 2), .ref (q 3), .int (iI (x)), .int (iI (y))] : List Value).toArray s_ 300 27500 (fun q : Nat => B0 ≤ q)) (F0 m_ 88 ls [.int (iI (bI (uR)))]) := by
    intro uR f H locs huR hF hW
    refine lv_istore (lv' := [(13, .int (iI (bI (uR)))), (12, .int (iI (z_10))), (11, .int (iI (1 + z_8))), (10, .int (iI (z_6))), (9, .int (iI (z_5))), (8, .int (iI (((z_1 + 1) + z_3) % 6))), (7, .int (iI (z_1))), (0, .ref (x0)), (1, .ref (q 0)), (2, .ref (q 1)), (3, .ref (q 2)), (4, .ref (q 3)), (5, .int (iI (x))), (6, .int (iI (y)))]) hx hb dL_sends_88 hl (by decide) rfl (fun ls hl => ?_)
    refine lv_iload hx hb dL_sends_90 (lv_at hl 13 rfl) ?_
    refine xi_bipush hx hb dL_sends_92 (by decide) ?_
    refine xi_ishr hx hb dL_sends_94 (fun y_14 hy_14 => ?_)
    refine xi_iconst hx hb dL_sends_95 ?_
    refine g_callS (As := [.int (iI (y_14)), .int (iI (4))]) (rest := []) K (c_L_low (y_14) (4) ⟨by omega, by omega⟩ ⟨by omega, by omega⟩) (va_cwS 2 hts (gd_T gL_L_low) rfl rfl rfl (by decide +kernel) ⟨Nat.le_of_ble_eq_true rfl, Nat.le_of_ble_eq_true rfl⟩) hK hW rfl hl.1 rfl (Nat.le_of_ble_eq_true rfl) dL_sends_96 ⟨by dsimp only; omega, by dsimp only; omega⟩ (fun v_ f_ H locs hp hW => ?_)
    obtain ⟨z_15, z_15a, z_15b, hpv, hpe⟩ := hp
    rw [hpe] at hW
    subst hpv
    have j_16 : ∀ (uD : Int) (f : gF) (H : Heap) (locs : List Loc), (0 ≤ uD ∧ uD ≤ 999) → wX D cy x0 S (lG cy q M) f → gW D B0 s_ f H locs → W p_ l e_ { frames := 15, cells := 300, slots := 27500, locals := 361 } s_ m_ ([.ref (x0), .ref (q 0), .ref (q 1), .ref (q 2), .ref (q 3), .int (iI (x)), .int (iI (y))] : List Value).toArray be_ me_ co_ H locs (0) (0) (MQ be_ (gQ D B0 (fun (r : Option Value) (g_ : gF) => r = some (.int (iI 1)) ∧ ∃ (T M1 : ST), wX D cy x0 T (lG cy q M1) g_ ∧ actN n S T M1)) ([.ref (x0), .ref (q 0), .ref (q 1), .ref (q 2), .ref (q 3), .int (iI (x)), .int (iI (y))] : List Value).toArray s_ 300 27500 (fun q : Nat => B0 ≤ q)) (F0 m_ 121 ls [.int (iI (uD))]) := by
      intro uD f H locs huD hF hW
      refine lv_istore (lv' := [(14, .int (iI (uD))), (13, .int (iI (bI (uR)))), (12, .int (iI (z_10))), (11, .int (iI (1 + z_8))), (10, .int (iI (z_6))), (9, .int (iI (z_5))), (8, .int (iI (((z_1 + 1) + z_3) % 6))), (7, .int (iI (z_1))), (0, .ref (x0)), (1, .ref (q 0)), (2, .ref (q 1)), (3, .ref (q 2)), (4, .ref (q 3)), (5, .int (iI (x))), (6, .int (iI (y)))]) hx hb dL_sends_121 hl (by decide) rfl (fun ls hl => ?_)
      refine lv_aload_n hx hb dL_sends_123 rfl (lv_at hl 8 rfl) ?_
      obtain ⟨fs_, hfs_⟩ := wX_at hF
      refine g_callV (i := 100000) (As := []) (rest := []) K (x_doubles hI.1.1.1 hF) (cwV 0 hts (gd_T gL_X11_doubles) rfl rfl rfl (by decide +kernel) ⟨Nat.le_of_ble_eq_true rfl, Nat.le_of_ble_eq_true rfl⟩) hK hW hfs_ rfl rfl hl.1 rfl (Nat.le_of_ble_eq_true rfl) dL_sends_124 ⟨by dsimp only; omega, by dsimp only; omega⟩ (fun v_ f_ H locs hp hW => ?_)
      obtain ⟨hpv, hpe⟩ := hp
      rw [hpe] at hW
      subst hpv
      have w_17 := wf_26 hI.1.1.1 0
      refine lv_istore (lv' := [(15, .int (iI (S.1 26 0))), (14, .int (iI (uD))), (13, .int (iI (bI (uR)))), (12, .int (iI (z_10))), (11, .int (iI (1 + z_8))), (10, .int (iI (z_6))), (9, .int (iI (z_5))), (8, .int (iI (((z_1 + 1) + z_3) % 6))), (7, .int (iI (z_1))), (0, .ref (x0)), (1, .ref (q 0)), (2, .ref (q 1)), (3, .ref (q 2)), (4, .ref (q 3)), (5, .int (iI (x))), (6, .int (iI (y)))]) hx hb dL_sends_127 hl (by decide) rfl (fun ls hl => ?_)
      refine lv_aload_n hx hb dL_sends_129 rfl (lv_at hl 9 rfl) ?_
      refine lv_iload hx hb dL_sends_130 (lv_at hl 8 rfl) ?_
      refine lv_iload hx hb dL_sends_132 (lv_at hl 6 rfl) ?_
      refine lv_iload hx hb dL_sends_134 (lv_at hl 7 rfl) ?_
      refine lv_iload hx hb dL_sends_136 (lv_at hl 5 rfl) ?_
      refine lv_iload hx hb dL_sends_138 (lv_at hl 4 rfl) ?_
      refine lv_iload hx hb dL_sends_140 (lv_at hl 14 rfl) ?_
      refine xi_bipush hx hb dL_sends_142 (by decide) ?_
      refine xi_ishr hx hb dL_sends_144 (fun y_18 hy_18 => ?_)
      refine xi_iconst hx hb dL_sends_145 ?_
      refine g_callS (As := [.int (iI (y_18)), .int (iI (4))]) (rest := [.int (iI (1 + z_8)), .int (iI (z_6)), .int (iI (((z_1 + 1) + z_3) % 6)), .int (iI (z_5)), .int (iI (z_1)), .ref (x0)]) K (c_L_low (y_18) (4) ⟨by omega, by omega⟩ ⟨by omega, by omega⟩) (va_cwS 2 hts (gd_T gL_L_low) rfl rfl rfl (by decide +kernel) ⟨Nat.le_of_ble_eq_true rfl, Nat.le_of_ble_eq_true rfl⟩) hK hW rfl hl.1 rfl (Nat.le_of_ble_eq_true rfl) dL_sends_146 ⟨by dsimp only; omega, by dsimp only; omega⟩ (fun v_ f_ H locs hp hW => ?_)
      obtain ⟨z_19, z_19a, z_19b, hpv, hpe⟩ := hp
      rw [hpe] at hW
      subst hpv
      refine lv_iload hx hb dL_sends_149 (lv_at hl 3 rfl) ?_
      refine lv_iload hx hb dL_sends_151 (lv_at hl 2 rfl) ?_
      refine lv_iload hx hb dL_sends_153 (lv_at hl 1 rfl) ?_
      refine lv_iload hx hb dL_sends_155 (lv_at hl 15 rfl) ?_
      refine xi_bipush hx hb dL_sends_157 (by decide) ?_
      refine xi_ishr hx hb dL_sends_159 (fun y_20 hy_20 => ?_)
      refine xi_iconst hx hb dL_sends_160 ?_
      refine l_call16 (As := [.int (iI (y_20)), .int (iI (2))]) (rest := [.int (iI (uD)), .int (iI (bI (uR))), .int (iI (z_10)), .int (iI (z_19)), .int (iI (1 + z_8)), .int (iI (z_6)), .int (iI (((z_1 + 1) + z_3) % 6)), .int (iI (z_5)), .int (iI (z_1)), .ref (x0)]) (Nat.le_of_ble_eq_true rfl) K (c_L_low (y_20) (2) ⟨by omega, by omega⟩ ⟨by omega, by omega⟩) (va_cwS 2 hts (gd_T gL_L_low) rfl rfl rfl (by decide +kernel) ⟨Nat.le_of_ble_eq_true rfl, Nat.le_of_ble_eq_true rfl⟩) hK hW rfl hl.1 rfl (Nat.le_of_ble_eq_true rfl) dL_sends_161 ⟨by dsimp only; omega, by dsimp only; omega⟩ (fun v_ f_ H locs hp hW => ?_)
      obtain ⟨z_21, z_21a, z_21b, hpv, hpe⟩ := hp
      rw [hpe] at hW
      subst hpv
      have j_22 : ∀ (uS : Bool) (f : gF) (H : Heap) (locs : List Loc), (True) → wX D cy x0 S (lG cy q M) f → gW D B0 s_ f H locs → W p_ l e_ { frames := 15, cells := 300, slots := 27500, locals := 361 } s_ m_ ([.ref (x0), .ref (q 0), .ref (q 1), .ref (q 2), .ref (q 3), .int (iI (x)), .int (iI (y))] : List Value).toArray be_ me_ co_ H locs (0) (0) (MQ be_ (gQ D B0 (fun (r : Option Value) (g_ : gF) => r = some (.int (iI 1)) ∧ ∃ (T M1 : ST), wX D cy x0 T (lG cy q M1) g_ ∧ actN n S T M1)) ([.ref (x0), .ref (q 0), .ref (q 1), .ref (q 2), .ref (q 3), .int (iI (x)), .int (iI (y))] : List Value).toArray s_ 300 27500 (fun q : Nat => B0 ≤ q)) (F0 m_ 172 ls [.int (iI (bI (uS))), .int (iI (uD)), .int (iI (bI (uR))), .int (iI (z_10)), .int (iI (z_19)), .int (iI (1 + z_8)), .int (iI (z_6)), .int (iI (((z_1 + 1) + z_3) % 6)), .int (iI (z_5)), .int (iI (z_1)), .ref (x0)]) := by
        intro uS f H locs huS hF hW
        refine g_xcallSH (As := [.ref (x0), .int (iI (z_1)), .int (iI (z_5)), .int (iI (((z_1 + 1) + z_3) % 6)), .int (iI (z_6)), .int (iI (1 + z_8)), .int (iI (z_19)), .int (iI (z_10)), .int (iI (bI (uR))), .int (iI (uD)), .int (iI (bI (uS)))]) (rest := []) K (c_L_send (by omega) hI hst (lG_n (by decide)) (lG_n (by decide)) (lG_n (by decide)) hF (z_1) (z_5) (((z_1 + 1) + z_3) % 6) (z_6) (1 + z_8) (z_19) (z_10) (uR) (uD) (uS) ⟨by omega, by omega⟩ ⟨by omega, by omega⟩ ⟨by omega, by omega⟩ ⟨by omega, by omega⟩ ⟨by omega, by omega⟩ ⟨by omega, by omega⟩ ⟨by omega, by omega⟩ ⟨by omega, by omega⟩) (vx_cwSW 11 hts (gd_T gL_L_send) rfl rfl rfl (by decide +kernel) ⟨Nat.le_of_ble_eq_true rfl, Nat.le_of_ble_eq_true rfl⟩) hK hW rfl hl.1 rfl (Nat.le_of_ble_eq_true rfl) dL_sends_172 ⟨by dsimp only; omega, by dsimp only; omega⟩ (fun v_ f H locs hp hW => ?_)
        obtain ⟨t_23, T_23, ht_23, hT_23, fx_23⟩ : ∃ (t : Int) (T : ST), t = hv (pSend S (z_1) (z_5) (((z_1 + 1) + z_3) % 6) (z_6) (1 + z_8) (z_19) (z_10) (uR) (uD) (uS)).1 (pSend S (z_1) (z_5) (((z_1 + 1) + z_3) % 6) (z_6) (1 + z_8) (z_19) (z_10) (uR) (uD) (uS)).2.1 (-1000001) (-1000002) (-1000003) ∧ T = (pSend S (z_1) (z_5) (((z_1 + 1) + z_3) % 6) (z_6) (1 + z_8) (z_19) (z_10) (uR) (uD) (uS)).2.2 ∧ F_send n S M (z_1) (((z_1 + 1) + z_3) % 6) (z_6) (1 + z_8) (z_10) (uR) t T := ⟨_, _, rfl, rfl, f_send (by omega) hI hk hM hd (by omega) (by omega) (by omega) (by omega) (by omega) (by omega) (by omega) (by omega) (by omega)⟩
        obtain ⟨hpv, hF⟩ := hp
        rw [← ht_23] at hpv
        rw [← hT_23] at hF
        subst hpv
        unfold F_send at fx_23
        have hw_23 : wf T_23 := by
          rcases fx_23 with h | h | h
          · exact h.2.2.2.2.2.1
          · exact h.2.2.2.2.1
          · exact h.2.2.2.2.2.2.1
        refine lv_istore (lv' := [(16, .int (iI (t_23))), (15, .int (iI (S.1 26 0))), (14, .int (iI (uD))), (13, .int (iI (bI (uR)))), (12, .int (iI (z_10))), (11, .int (iI (1 + z_8))), (10, .int (iI (z_6))), (9, .int (iI (z_5))), (8, .int (iI (((z_1 + 1) + z_3) % 6))), (7, .int (iI (z_1))), (0, .ref (x0)), (1, .ref (q 0)), (2, .ref (q 1)), (3, .ref (q 2)), (4, .ref (q 3)), (5, .int (iI (x))), (6, .int (iI (y)))]) hx hb dL_sends_175 hl (by decide) rfl (fun ls hl => ?_)
        refine lv_iload hx hb dL_sends_177 (lv_at hl 0 rfl) ?_
        refine lv_aload_n hx hb dL_sends_179 rfl (lv_at hl 11 rfl) ?_
        refine xi_iconst hx hb dL_sends_180 ?_
        refine l_ild hx hb hK hF hW (i := 0) (by decide) (z := 0) (by omega) (by have e : ((lLen 0 : Nat) : Int) = 4 := rfl; omega) dL_sends_181 ?_
        refine xi_icmp_ne (tgt := 264) hx hb ⟨by omega, by omega⟩ ⟨by omega, by omega⟩ dL_sends_182 (by decide) (fun c_24 => ?_) (fun c_24 => ?_)
        · refine lv_iload hx hb dL_sends_264 (lv_at hl 0 rfl) ?_
          refine xi_ldc hx hb (-1000003) (by decide) hown (hts _ kL_44) dL_sends_266 ?_
          refine xi_icmp_ne (tgt := 288) hx hb ⟨by omega, by omega⟩ ⟨by omega, by omega⟩ dL_sends_268 (by decide) (fun c_25 => ?_) (fun c_25 => ?_)
          · refine lv_iload hx hb dL_sends_288 (lv_at hl 0 rfl) ?_
            refine xi_if_lt (tgt := 346) hx hb ⟨by omega, by omega⟩ dL_sends_290 (by decide) (fun c_26 => ?_) (fun c_26 => ?_)
            · refine xi_iconst hx hb dL_sends_346 ?_
              exfalso; omega
            · refine lv_iload hx hb dL_sends_293 (lv_at hl 0 rfl) ?_
              refine lv_aload_n hx hb dL_sends_295 rfl (lv_at hl 11 rfl) ?_
              refine xi_iconst hx hb dL_sends_296 ?_
              refine l_ild hx hb hK hF hW (i := 0) (by decide) (z := 0) (by omega) (by have e : ((lLen 0 : Nat) : Int) = 4 := rfl; omega) dL_sends_297 ?_
              refine xi_icmp_ge (tgt := 346) hx hb ⟨by omega, by omega⟩ ⟨by omega, by omega⟩ dL_sends_298 (by decide) (fun c_27 => ?_) (fun c_27 => ?_)
              · refine xi_iconst hx hb dL_sends_346 ?_
                exfalso; omega
              · refine lv_aload_n hx hb dL_sends_301 rfl (lv_at hl 12 rfl) ?_
                refine lv_iload hx hb dL_sends_302 (lv_at hl 0 rfl) ?_
                refine l_ild hx hb hK hF hW (i := 1) (by decide) (z := t_23) (by omega) (by have e : ((lLen 1 : Nat) : Int) = 60 := rfl; omega) dL_sends_304 ?_
                refine xi_bipush hx hb dL_sends_305 (by decide) ?_
                refine lv_iload hx hb dL_sends_307 (lv_at hl 9 rfl) ?_
                refine xi_imul hx hb dL_sends_309 ?_
                refine lv_iload hx hb dL_sends_310 (lv_at hl 8 rfl) ?_
                refine xi_iadd hx hb dL_sends_312 ?_
                refine xi_icmp_ne (tgt := 346) hx hb ⟨by omega, by omega⟩ ⟨by omega, by omega⟩ dL_sends_313 (by decide) (fun c_28 => ?_) (fun c_28 => ?_)
                · refine xi_iconst hx hb dL_sends_346 ?_
                  exfalso; omega
                · refine lv_aload_n hx hb dL_sends_316 rfl (lv_at hl 13 rfl) ?_
                  refine lv_iload hx hb dL_sends_317 (lv_at hl 0 rfl) ?_
                  refine l_ild hx hb hK hF hW (i := 2) (by decide) (z := t_23) (by omega) (by have e : ((lLen 2 : Nat) : Int) = 60 := rfl; omega) dL_sends_319 ?_
                  refine xi_bipush hx hb dL_sends_320 (by decide) ?_
                  refine lv_iload hx hb dL_sends_322 (lv_at hl 6 rfl) ?_
                  refine xi_imul hx hb dL_sends_324 ?_
                  refine lv_iload hx hb dL_sends_325 (lv_at hl 5 rfl) ?_
                  refine xi_iadd hx hb dL_sends_327 ?_
                  refine xi_icmp_ne (tgt := 346) hx hb ⟨by omega, by omega⟩ ⟨by omega, by omega⟩ dL_sends_328 (by decide) (fun c_29 => ?_) (fun c_29 => ?_)
                  · refine xi_iconst hx hb dL_sends_346 ?_
                    exfalso; omega
                  · refine lv_aload_n hx hb dL_sends_331 rfl (lv_at hl 10 rfl) ?_
                    obtain ⟨fs_, hfs_⟩ := wX_at hF
                    refine g_callV (i := 100000) (As := []) (rest := []) K (x_doubles hw_23 hF) (cwV 0 hts (gd_T gL_X11_doubles) rfl rfl rfl (by decide +kernel) ⟨Nat.le_of_ble_eq_true rfl, Nat.le_of_ble_eq_true rfl⟩) hK hW hfs_ rfl rfl hl.1 rfl (Nat.le_of_ble_eq_true rfl) dL_sends_332 ⟨by dsimp only; omega, by dsimp only; omega⟩ (fun v_ f_ H locs hp hW => ?_)
                    obtain ⟨hpv, hpe⟩ := hp
                    rw [hpe] at hW
                    subst hpv
                    have w_30 := wf_26 hw_23 0
                    refine lv_iload hx hb dL_sends_335 (lv_at hl 1 rfl) ?_
                    refine xi_iconst hx hb dL_sends_337 ?_
                    refine xi_iadd hx hb dL_sends_338 ?_
                    refine xi_icmp_ne (tgt := 346) hx hb ⟨by omega, by omega⟩ ⟨by omega, by omega⟩ dL_sends_339 (by decide) (fun c_31 => ?_) (fun c_31 => ?_)
                    · refine xi_iconst hx hb dL_sends_346 ?_
                      exfalso; omega
                    · refine xi_iconst hx hb dL_sends_342 ?_
                      refine lv_goto (tgt := 347) hx hb dL_sends_343 (by decide) ?_
                      exact W.widen (by omega) (by omega) (g_zret hx hb hr (Or.inr rfl) hW ⟨rfl, T_23, _, hF, by rcases fx_23 with h | h | h <;> first | exact h.2.2.2.2.2.2 | exact h.2.2.2.2.2 | exact h.2.2.2.2.2.2.2 | (exfalso; omega)⟩ dL_sends_347 hlk)
          · refine lv_aload_n hx hb dL_sends_271 rfl (lv_at hl 10 rfl) ?_
            obtain ⟨fs_, hfs_⟩ := wX_at hF
            refine g_callV (i := 100000) (As := []) (rest := []) K (x_doubles hw_23 hF) (cwV 0 hts (gd_T gL_X11_doubles) rfl rfl rfl (by decide +kernel) ⟨Nat.le_of_ble_eq_true rfl, Nat.le_of_ble_eq_true rfl⟩) hK hW hfs_ rfl rfl hl.1 rfl (Nat.le_of_ble_eq_true rfl) dL_sends_272 ⟨by dsimp only; omega, by dsimp only; omega⟩ (fun v_ f_ H locs hp hW => ?_)
            obtain ⟨hpv, hpe⟩ := hp
            rw [hpe] at hW
            subst hpv
            have w_32 := wf_26 hw_23 0
            refine lv_iload hx hb dL_sends_275 (lv_at hl 1 rfl) ?_
            refine xi_icmp_ne (tgt := 284) hx hb ⟨by omega, by omega⟩ ⟨by omega, by omega⟩ dL_sends_277 (by decide) (fun c_33 => ?_) (fun c_33 => ?_)
            · refine xi_iconst hx hb dL_sends_284 ?_
              refine lv_goto (tgt := 347) hx hb dL_sends_285 (by decide) ?_
              exfalso; omega
            · refine xi_iconst hx hb dL_sends_280 ?_
              refine lv_goto (tgt := 347) hx hb dL_sends_281 (by decide) ?_
              exact W.widen (by omega) (by omega) (g_zret hx hb hr (Or.inr rfl) hW ⟨rfl, T_23, _, hF, by rcases fx_23 with h | h | h <;> first | exact h.2.2.2.2.2.2 | exact h.2.2.2.2.2 | exact h.2.2.2.2.2.2.2 | (exfalso; omega)⟩ dL_sends_347 hlk)
        · refine lv_aload_n hx hb dL_sends_185 rfl (lv_at hl 12 rfl) ?_
          refine lv_aload_n hx hb dL_sends_186 rfl (lv_at hl 11 rfl) ?_
          refine xi_iconst hx hb dL_sends_187 ?_
          refine l_ild hx hb hK hF hW (i := 0) (by decide) (z := 0) (by omega) (by have e : ((lLen 0 : Nat) : Int) = 4 := rfl; omega) dL_sends_188 ?_
          refine xi_bipush hx hb dL_sends_189 (by decide) ?_
          refine lv_iload hx hb dL_sends_191 (lv_at hl 9 rfl) ?_
          refine xi_imul hx hb dL_sends_193 ?_
          refine lv_iload hx hb dL_sends_194 (lv_at hl 8 rfl) ?_
          refine xi_iadd hx hb dL_sends_196 ?_
          refine l_ist hx hb hK hF hW (i := 1) (by decide) (z := M.1 0 0) (v := (8 * z_1) + (((z_1 + 1) + z_3) % 6)) (by omega) (by have e : ((lLen 1 : Nat) : Int) = 60 := rfl; omega) dL_sends_197 (fun f H locs hF hW => ?_)
          refine lv_aload_n hx hb dL_sends_198 rfl (lv_at hl 13 rfl) ?_
          refine lv_aload_n hx hb dL_sends_199 rfl (lv_at hl 11 rfl) ?_
          refine xi_iconst hx hb dL_sends_200 ?_
          refine l_ild hx hb hK hF hW (i := 0) (by decide) (z := 0) (by omega) (by have e : ((lLen 0 : Nat) : Int) = 4 := rfl; omega) dL_sends_201 ?_
          refine xi_eq (z' := M.1 0 0) (by simp [pI, pL]) ?_
          refine xi_bipush hx hb dL_sends_202 (by decide) ?_
          refine lv_iload hx hb dL_sends_204 (lv_at hl 6 rfl) ?_
          refine xi_imul hx hb dL_sends_206 ?_
          refine lv_iload hx hb dL_sends_207 (lv_at hl 5 rfl) ?_
          refine xi_iadd hx hb dL_sends_209 ?_
          refine l_ist hx hb hK hF hW (i := 2) (by decide) (z := M.1 0 0) (v := (64 * z_6) + (1 + z_8)) (by omega) (by have e : ((lLen 2 : Nat) : Int) = 60 := rfl; omega) dL_sends_210 (fun f H locs hF hW => ?_)
          refine lv_aload hx hb dL_sends_211 (lv_at hl 14 rfl) ?_
          refine lv_aload_n hx hb dL_sends_213 rfl (lv_at hl 11 rfl) ?_
          refine xi_iconst hx hb dL_sends_214 ?_
          refine l_ild hx hb hK hF hW (i := 0) (by decide) (z := 0) (by omega) (by have e : ((lLen 0 : Nat) : Int) = 4 := rfl; omega) dL_sends_215 ?_
          refine xi_eq (z' := M.1 0 0) (by simp [pI, pL]) ?_
          refine xi_iconst hx hb dL_sends_216 ?_
          refine lv_iload hx hb dL_sends_217 (lv_at hl 4 rfl) ?_
          refine xi_imul hx hb dL_sends_219 ?_
          refine lv_iload hx hb dL_sends_220 (lv_at hl 3 rfl) ?_
          have j_34 : ∀ (uV : Int) (f : gF) (H : Heap) (locs : List Loc), (uV = bI uR) → wX D cy x0 T_23 (lG cy q (pI (pI M 1 (M.1 0 0) ((8 * z_1) + (((z_1 + 1) + z_3) % 6))) 2 (M.1 0 0) ((64 * z_6) + (1 + z_8)))) f → gW D B0 s_ f H locs → W p_ l e_ { frames := 15, cells := 300, slots := 27500, locals := 361 } s_ m_ ([.ref (x0), .ref (q 0), .ref (q 1), .ref (q 2), .ref (q 3), .int (iI (x)), .int (iI (y))] : List Value).toArray be_ me_ co_ H locs (256) (27000) (MQ be_ (gQ D B0 (fun (r : Option Value) (g_ : gF) => r = some (.int (iI 1)) ∧ ∃ (T M1 : ST), wX D cy x0 T (lG cy q M1) g_ ∧ actN n S T M1)) ([.ref (x0), .ref (q 0), .ref (q 1), .ref (q 2), .ref (q 3), .int (iI (x)), .int (iI (y))] : List Value).toArray s_ 300 27500 (fun q : Nat => B0 ≤ q)) (F0 m_ 230 ls [.int (iI (uV)), .int (iI (2 * z_10)), .int (iI (M.1 0 0)), .ref (q 3)]) := by
            intro uV f H locs huV hF hW
            subst huV
            refine xi_iadd hx hb dL_sends_230 ?_
            refine l_ist hx hb hK hF hW (i := 3) (by decide) (z := M.1 0 0) (v := (2 * z_10) + (bI uR)) (by omega) (by have e : ((lLen 3 : Nat) : Int) = 60 := rfl; omega) dL_sends_231 (fun f H locs hF hW => ?_)
            refine lv_aload_n hx hb dL_sends_232 rfl (lv_at hl 11 rfl) ?_
            refine xi_iconst hx hb dL_sends_233 ?_
            refine lv_dup2_11 hx hb dL_sends_234 rfl rfl ?_
            refine l_ild hx hb hK hF hW (i := 0) (by decide) (z := 0) (by omega) (by have e : ((lLen 0 : Nat) : Int) = 4 := rfl; omega) dL_sends_235 ?_
            refine xi_eq (z' := M.1 0 0) (by simp [pI, pL]) ?_
            refine xi_iconst hx hb dL_sends_236 ?_
            refine xi_iadd hx hb dL_sends_237 ?_
            refine l_ist hx hb hK hF hW (i := 0) (by decide) (z := 0) (v := (M.1 0 0) + 1) (by omega) (by have e : ((lLen 0 : Nat) : Int) = 4 := rfl; omega) dL_sends_238 (fun f H locs hF hW => ?_)
            refine lv_aload_n hx hb dL_sends_239 rfl (lv_at hl 10 rfl) ?_
            obtain ⟨fs_, hfs_⟩ := wX_at hF
            refine g_callV (i := 100000) (As := []) (rest := []) K (x_payments hw_23 hF) (cwV 0 hts (gd_T gL_X11_payments) rfl rfl rfl (by decide +kernel) ⟨Nat.le_of_ble_eq_true rfl, Nat.le_of_ble_eq_true rfl⟩) hK hW hfs_ rfl rfl hl.1 rfl (Nat.le_of_ble_eq_true rfl) dL_sends_240 ⟨by dsimp only; omega, by dsimp only; omega⟩ (fun v_ f_ H locs hp hW => ?_)
            obtain ⟨hpv, hpe⟩ := hp
            rw [hpe] at hW
            subst hpv
            have w_35 := wf_8 hw_23 0
            refine lv_aload_n hx hb dL_sends_243 rfl (lv_at hl 11 rfl) ?_
            refine xi_iconst hx hb dL_sends_244 ?_
            refine l_ild hx hb hK hF hW (i := 0) (by decide) (z := 0) (by omega) (by have e : ((lLen 0 : Nat) : Int) = 4 := rfl; omega) dL_sends_245 ?_
            refine xi_eq (z' := (M.1 0 0) + 1) (by simp [pI, pL]) ?_
            refine xi_icmp_ne (tgt := 262) hx hb ⟨by omega, by omega⟩ ⟨by omega, by omega⟩ dL_sends_246 (by decide) (fun c_36 => ?_) (fun c_36 => ?_)
            · refine xi_iconst hx hb dL_sends_262 ?_
              exfalso; omega
            · refine lv_aload_n hx hb dL_sends_249 rfl (lv_at hl 10 rfl) ?_
              obtain ⟨fs_, hfs_⟩ := wX_at hF
              refine g_callV (i := 100000) (As := []) (rest := []) K (x_doubles hw_23 hF) (cwV 0 hts (gd_T gL_X11_doubles) rfl rfl rfl (by decide +kernel) ⟨Nat.le_of_ble_eq_true rfl, Nat.le_of_ble_eq_true rfl⟩) hK hW hfs_ rfl rfl hl.1 rfl (Nat.le_of_ble_eq_true rfl) dL_sends_250 ⟨by dsimp only; omega, by dsimp only; omega⟩ (fun v_ f_ H locs hp hW => ?_)
              obtain ⟨hpv, hpe⟩ := hp
              rw [hpe] at hW
              subst hpv
              have w_37 := wf_26 hw_23 0
              refine lv_iload hx hb dL_sends_253 (lv_at hl 1 rfl) ?_
              refine xi_icmp_ne (tgt := 262) hx hb ⟨by omega, by omega⟩ ⟨by omega, by omega⟩ dL_sends_255 (by decide) (fun c_38 => ?_) (fun c_38 => ?_)
              · refine xi_iconst hx hb dL_sends_262 ?_
                exfalso; omega
              · refine xi_iconst hx hb dL_sends_258 ?_
                refine lv_goto (tgt := 263) hx hb dL_sends_259 (by decide) ?_
                exact W.widen (by omega) (by omega) (g_zret hx hb hr (Or.inr rfl) hW ⟨rfl, T_23, _, hF, by rcases fx_23 with h | h | h <;> first | exact h.2.2.2.2.2.2 | exact h.2.2.2.2.2 | exact h.2.2.2.2.2.2.2 | (exfalso; omega)⟩ dL_sends_263 hlk)
          refine xi_ifb_eq (tgt := 229) hx hb dL_sends_222 (by decide) (fun c_39 => ?_) (fun c_39 => ?_)
          · refine xi_iconst hx hb dL_sends_229 ?_
            exact j_34 (0) f H locs (by rw [c_39]; rfl) hF hW
          · refine xi_iconst hx hb dL_sends_225 ?_
            refine lv_goto (tgt := 230) hx hb dL_sends_226 (by decide) ?_
            exact j_34 (1) f H locs (by rw [c_39]; rfl) hF hW
      refine xi_if_ne (tgt := 171) hx hb ⟨by omega, by omega⟩ dL_sends_164 (by decide) (fun c_40 => ?_) (fun c_40 => ?_)
      · refine xi_iconst hx hb dL_sends_171 ?_
        exact j_22 (false) f H locs trivial hF hW
      · refine xi_iconst hx hb dL_sends_167 ?_
        refine lv_goto (tgt := 172) hx hb dL_sends_168 (by decide) ?_
        exact j_22 (true) f H locs trivial hF hW
    refine xi_if_ne (tgt := 120) hx hb ⟨by omega, by omega⟩ dL_sends_99 (by decide) (fun c_41 => ?_) (fun c_41 => ?_)
    · refine xi_iconst hx hb dL_sends_120 ?_
      exact j_16 (0) f H locs (by omega) hF hW
    · refine lv_aload_n hx hb dL_sends_102 rfl (lv_at hl 8 rfl) ?_
      refine xi_iconst hx hb dL_sends_103 ?_
      refine l_ild hx hb hK hF hW (i := 0) (by decide) (z := 1) (by omega) (by have e : ((lLen 0 : Nat) : Int) = 4 := rfl; omega) dL_sends_104 ?_
      refine xi_iconst hx hb dL_sends_105 ?_
      refine xi_iadd hx hb dL_sends_106 ?_
      refine lv_iload hx hb dL_sends_107 (lv_at hl 13 rfl) ?_
      refine xi_bipush hx hb dL_sends_109 (by decide) ?_
      refine xi_ishr hx hb dL_sends_111 (fun y_42 hy_42 => ?_)
      refine xi_iconst hx hb dL_sends_112 ?_
      refine g_callS (As := [.int (iI (y_42)), .int (iI (5))]) (rest := [.int (iI ((M.1 0 1) + 1))]) K (c_L_low (y_42) (5) ⟨by omega, by omega⟩ ⟨by omega, by omega⟩) (va_cwS 2 hts (gd_T gL_L_low) rfl rfl rfl (by decide +kernel) ⟨Nat.le_of_ble_eq_true rfl, Nat.le_of_ble_eq_true rfl⟩) hK hW rfl hl.1 rfl (Nat.le_of_ble_eq_true rfl) dL_sends_113 ⟨by dsimp only; omega, by dsimp only; omega⟩ (fun v_ f_ H locs hp hW => ?_)
      obtain ⟨z_43, z_43a, z_43b, hpv, hpe⟩ := hp
      rw [hpe] at hW
      subst hpv
      refine xi_iadd hx hb dL_sends_116 ?_
      refine lv_goto (tgt := 121) hx hb dL_sends_117 (by decide) ?_
      exact j_16 (((M.1 0 1) + 1) + z_43) f H locs (by omega) hF hW
  refine xi_if_le (tgt := 87) hx hb ⟨by omega, by omega⟩ dL_sends_80 (by decide) (fun c_44 => ?_) (fun c_44 => ?_)
  · refine xi_iconst hx hb dL_sends_87 ?_
    exact j_13 (false) f H locs trivial hF hW
  · refine xi_iconst hx hb dL_sends_83 ?_
    refine lv_goto (tgt := 88) hx hb dL_sends_84 (by decide) ?_
    exact j_13 (true) f H locs trivial hF hW
