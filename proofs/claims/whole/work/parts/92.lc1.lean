set_option maxHeartbeats 4000000 in
set_option maxRecDepth 100000 in
theorem lc_withdraw {p : Program} {l : Launch} {e : Env} {s : State} {m : MethodId} {below : List Frame} {meth : Method} {c : Code} {H : Heap} {locs : List Loc} {ls : Array Slot} {D : va_G} {cy : Nat → ClassId} {B0 b L : Nat} {xs : Nat → Int32} {ix : Nat → Nat} {o x0 : Nat} {Q : State → Prop} {n : Nat} {S : ST} (C0 : lwC p l s m c D cy B0 b L xs) (hn : 11 * (n : Int) + 11 ≤ L) (hI : cI n S) (hw : lwI D cy B0 s ix o b x0 (11 * n) S H locs ls) (kk : lcK p l e s m below meth c D cy B0 b ix o x0 Q n S) : W p l e room_1 s m #[Value.ref b] below meth c H locs (lcC n S) (lcS n S) Q (F0 m 960 ls []) := by
  obtain ⟨K, hK, hB, hX, hbl, hL, hst⟩ := C0
  obtain ⟨hx, hb, hml, hown, hts⟩ := id K
  obtain ⟨ad, bk, I, cX, qX, J, aM, qM, tM, v0, rfl, hP0, hE0, hW, hl⟩ := hw
  have hn5 : n < 512 := by omega
  have ho := hI.1.1
  have hwf := ho.1
  have he : S.1 31 0 + cNF S < 19900 := by have := hI.2.2.2.1; omega
  have h26 : S.1 26 0 < 100000 := by have := hI.2.2.2.2.1; omega
  have hlg := inv_lg4 hI.1.2.1 hI.1.2.2.1 hI.2.1
  have hs8 : S.1 8 0 < 60 → S.1 18 (S.1 8 0) ≠ 4 := fun h => by rw [(hI.1.2.2.2.2.2.2.2.2.2.1 _ (Int.le_refl _) h).1]; decide
  obtain ⟨a1, ha1⟩ : ∃ z, (xs (11 * (n : Int) + 1).toNat).toInt = z := ⟨_, rfl⟩
  have hr1 : rI a1 := ha1 ▸ rI_32 _
  refine lv_aload_n hx hb dL_law_960 rfl (lv_at hl 1 rfl) ?_
  refine lw_arg (j := 1) (k := 4) (iz := 11 * (n : Int)) hx hb hX hbl hB hW (lv_at hl 0 rfl) (lv_at hl 4 rfl) (by omega) (by decide) (by omega) hL dL_law_961 dL_law_962 (Or.inl ⟨dL_law_964, rfl⟩) dL_law_965 dL_law_966 ha1 ?_
  refine lv_aload_n hx hb dL_law_967 rfl (lv_at hl 3 rfl) ?_
  have hJ : cJ n S (pWith S a1).2.2 := cI_withdraw hn5 hI a1
  have hwf2 : wf (pWith S a1).2.2 := hJ.1.1.1.1
  have hrm := lc_room hn5 hI hJ
  refine g_xcallSH (As := [.ref (ad 0), .int (iI a1), .ref o]) (rest := []) K (c_L_withdraw a1 hwf hr1 ho (legJ_W hI.1.2.1) he (lwG_n (by decide) (by decide)) (lwG_n (by decide) (by decide)) (lwG_n (by decide) (by decide)) hP0 hE0 hlg hst lwG_o) (vx_cwSW 3 hts (gd_L gL_L_withdraw) rfl rfl rfl (by decide +kernel) ⟨Nat.le_of_ble_eq_true rfl, Nat.le_of_ble_eq_true rfl⟩) hK hW rfl hl.1 rfl (Nat.le_of_ble_eq_true rfl) dL_law_968 hrm.1 (fun v_ f_ H locs hp hW => ?_)
  obtain ⟨hpv, ad2, bk2, I2, c2, q2, v2, had0, hPn, hEn, hval, hpe⟩ := hp
  rw [hpe, lwG_up] at hW
  subst hpv
  refine w_cs hrm.2.1 hrm.2.2.1 ?_
  refine lv_istore (lv' := [(5, .int (iI (pWith S a1).1)), (0, .ref b), (1, .ref (ad 0)), (2, .ref (ix 100)), (3, .ref o), (4, .int (iI (11 * (n : Int))))]) hx hb dL_law_971 hl (by decide) rfl (fun ls hl => ?_)
  have hW := toM hwf2 hW
  refine lv_aload_n hx hb dL_law_973 rfl (lv_at hl 3 rfl) ?_
  refine lw_arg (j := 1) (k := 4) (iz := 11 * (n : Int)) hx hb hX hbl hB hW (lv_at hl 1 rfl) (lv_at hl 5 rfl) (by omega) (by decide) (by omega) hL dL_law_974 dL_law_975 (Or.inl ⟨dL_law_977, rfl⟩) dL_law_978 dL_law_979 ha1 ?_
  refine g_callV (i := 0) (As := [.int (iI a1)]) (rest := []) K (c_M_withdraw a1 hr1 ho hlg) (cwV 1 hts (gd_L gL_X12_withdraw) rfl rfl rfl (by decide +kernel) ⟨Nat.le_of_ble_eq_true rfl, Nat.le_of_ble_eq_true rfl⟩) hK hW (mW_0 _ _ _ _ _) rfl rfl hl.1 rfl (Nat.le_of_ble_eq_true rfl) dL_law_980 hrm.2.2.2 (fun v_ f_ H locs hp hW => ?_)
  obtain ⟨hpv, J2, aM2, qM2, hpe⟩ := hp
  rw [hpe] at hW
  subst hpv
  refine lv_istore (lv' := [(6, .int (iI (pWith S a1).2.1)), (5, .int (iI (pWith S a1).1)), (0, .ref b), (1, .ref (ad 0)), (2, .ref (ix 100)), (3, .ref o), (4, .int (iI (11 * (n : Int))))]) hx hb dL_law_983 hl (by decide) rfl (fun ls hl => ?_)
  refine lv_aload_n hx hb dL_law_985 rfl (lv_at hl 4 rfl) ?_
  refine g_callV (i := 0) (As := []) (rest := []) K c_M_thrown (cwV 0 hts (gd_L gL_X12_thrown) rfl rfl rfl (by decide +kernel) ⟨Nat.le_of_ble_eq_true rfl, Nat.le_of_ble_eq_true rfl⟩) hK hW (mW_0 _ _ _ _ _) rfl rfl hl.1 rfl (Nat.le_of_ble_eq_true rfl) dL_law_986 hrm.2.2.2 (fun v_ f_ H locs hp hW => ?_)
  obtain ⟨hpv, hpe⟩ := hp
  rw [hpe] at hW
  subst hpv
  refine lv_iload hx hb dL_law_989 (lv_at hl 1 rfl) ?_
  refine lv_icmp_eq (tgt := 996) hx hb dL_law_991 (by decide) (fun _ => ?_) (fun h => absurd rfl h)
  refine lv_iload hx hb dL_law_996 (lv_at hl 1 rfl) ?_
  refine lv_if_ne (tgt := 1013) hx hb dL_law_998 (by decide) (fun _ => ?_) (fun h => ?_)
  · skip
    refine lv_goto (tgt := 1966) hx hb dL_law_1013 (by decide) ?_
    exact kk (pWith S a1).2.2 _ _ _ hJ ⟨ad2, bk2, I2, c2, q2, J2, aM2, qM2, (pWith S a1).1, v2, had0, hPn, hEn, toX hwf2 hW, lv_sub hl [2, 3, 4, 5, 6] rfl⟩
  · have hc : (pWith S a1).1 = 0 := iI_z (sGo_r _ _ _) h
    refine lv_aload_n hx hb dL_law_1001 rfl (lv_at hl 5 rfl) ?_
    refine xi_iconst hx hb dL_law_1002 ?_
    refine g_lald hx hb hK hW 300000 (n := 1) (g := v2) rfl (j := iI 0) (iI_in (by decide) (by decide) (by decide)) dL_law_1003 ?_
    rw [nat_0, hval hc]
    refine lv_iload hx hb dL_law_1004 (lv_at hl 0 rfl) ?_
    refine lv_i2l hx hb dL_law_1006 rfl ?_
    refine xi_lcmp_eq (tgt := 1013) hx hb dL_law_1007 dL_law_1008 (by decide) (fun _ => ?_) (fun h => absurd rfl h)
    refine lv_goto (tgt := 1966) hx hb dL_law_1013 (by decide) ?_
    exact kk (pWith S a1).2.2 _ _ _ hJ ⟨ad2, bk2, I2, c2, q2, J2, aM2, qM2, (pWith S a1).1, v2, had0, hPn, hEn, toX hwf2 hW, lv_sub hl [2, 3, 4, 5, 6] rfl⟩
set_option maxHeartbeats 4000000 in
set_option maxRecDepth 100000 in
theorem lc_release {p : Program} {l : Launch} {e : Env} {s : State} {m : MethodId} {below : List Frame} {meth : Method} {c : Code} {H : Heap} {locs : List Loc} {ls : Array Slot} {D : va_G} {cy : Nat → ClassId} {B0 b L : Nat} {xs : Nat → Int32} {ix : Nat → Nat} {o x0 : Nat} {Q : State → Prop} {n : Nat} {S : ST} (C0 : lwC p l s m c D cy B0 b L xs) (hn : 11 * (n : Int) + 11 ≤ L) (hI : cI n S) (hw : lwI D cy B0 s ix o b x0 (11 * n) S H locs ls) (kk : lcK p l e s m below meth c D cy B0 b ix o x0 Q n S) : W p l e room_1 s m #[Value.ref b] below meth c H locs (lcC n S) (lcS n S) Q (F0 m 1016 ls []) := by
  obtain ⟨K, hK, hB, hX, hbl, hL, hst⟩ := C0
  obtain ⟨hx, hb, hml, hown, hts⟩ := id K
  obtain ⟨ad, bk, I, cX, qX, J, aM, qM, tM, v0, rfl, hP0, hE0, hW, hl⟩ := hw
  have hn5 : n < 512 := by omega
  have ho := hI.1.1
  have hwf := ho.1
  have he : S.1 31 0 + cNF S < 19900 := by have := hI.2.2.2.1; omega
  have h26 : S.1 26 0 < 100000 := by have := hI.2.2.2.2.1; omega
  have hlg := inv_lg4 hI.1.2.1 hI.1.2.2.1 hI.2.1
  have hs8 : S.1 8 0 < 60 → S.1 18 (S.1 8 0) ≠ 4 := fun h => by rw [(hI.1.2.2.2.2.2.2.2.2.2.1 _ (Int.le_refl _) h).1]; decide
  obtain ⟨a1, ha1⟩ : ∃ z, (xs (11 * (n : Int) + 1).toNat).toInt = z := ⟨_, rfl⟩
  have hr1 : rI a1 := ha1 ▸ rI_32 _
  obtain ⟨a2, ha2⟩ : ∃ z, (xs (11 * (n : Int) + 2).toNat).toInt = z := ⟨_, rfl⟩
  have hr2 : rI a2 := ha2 ▸ rI_32 _
  refine lv_aload_n hx hb dL_law_1016 rfl (lv_at hl 1 rfl) ?_
  refine lw_arg (j := 1) (k := 4) (iz := 11 * (n : Int)) hx hb hX hbl hB hW (lv_at hl 0 rfl) (lv_at hl 4 rfl) (by omega) (by decide) (by omega) hL dL_law_1017 dL_law_1018 (Or.inl ⟨dL_law_1020, rfl⟩) dL_law_1021 dL_law_1022 ha1 ?_
  refine lw_arg (j := 2) (k := 4) (iz := 11 * (n : Int)) hx hb hX hbl hB hW (lv_at hl 0 rfl) (lv_at hl 4 rfl) (by omega) (by decide) (by omega) hL dL_law_1023 dL_law_1024 (Or.inl ⟨dL_law_1026, rfl⟩) dL_law_1027 dL_law_1028 ha2 ?_
  refine lv_aload_n hx hb dL_law_1029 rfl (lv_at hl 3 rfl) ?_
  have hJ : cJ n S (pRel S a1 a2).2.2 := cI_release hn5 hI a1 a2
  have hwf2 : wf (pRel S a1 a2).2.2 := hJ.1.1.1.1
  have hrm := lc_room hn5 hI hJ
  refine g_xcallSH (As := [.ref (ad 0), .int (iI a1), .int (iI a2), .ref o]) (rest := []) K (c_L_release a1 a2 hwf hr1 hr2 ho (legJ_W hI.1.2.1) he (lwG_n (by decide) (by decide)) (lwG_n (by decide) (by decide)) (lwG_n (by decide) (by decide)) hP0 hE0 (relJ_I hI.1.2.2.2.2.2.2.2.2.1) hI.2.2.1 hst lwG_o) (vx_cwSW 4 hts (gd_L gL_L_release) rfl rfl rfl (by decide +kernel) ⟨Nat.le_of_ble_eq_true rfl, Nat.le_of_ble_eq_true rfl⟩) hK hW rfl hl.1 rfl (Nat.le_of_ble_eq_true rfl) dL_law_1030 hrm.1 (fun v_ f_ H locs hp hW => ?_)
  obtain ⟨hpv, ad2, bk2, I2, c2, q2, v2, had0, hPn, hEn, hval, hpe⟩ := hp
  rw [hpe, lwG_up] at hW
  subst hpv
  refine w_cs hrm.2.1 hrm.2.2.1 ?_
  refine lv_istore (lv' := [(5, .int (iI (pRel S a1 a2).1)), (0, .ref b), (1, .ref (ad 0)), (2, .ref (ix 100)), (3, .ref o), (4, .int (iI (11 * (n : Int))))]) hx hb dL_law_1033 hl (by decide) rfl (fun ls hl => ?_)
  have hW := toM hwf2 hW
  refine lv_aload_n hx hb dL_law_1035 rfl (lv_at hl 3 rfl) ?_
  refine lw_arg (j := 1) (k := 4) (iz := 11 * (n : Int)) hx hb hX hbl hB hW (lv_at hl 1 rfl) (lv_at hl 5 rfl) (by omega) (by decide) (by omega) hL dL_law_1036 dL_law_1037 (Or.inl ⟨dL_law_1039, rfl⟩) dL_law_1040 dL_law_1041 ha1 ?_
  refine lw_arg (j := 2) (k := 4) (iz := 11 * (n : Int)) hx hb hX hbl hB hW (lv_at hl 1 rfl) (lv_at hl 5 rfl) (by omega) (by decide) (by omega) hL dL_law_1042 dL_law_1043 (Or.inl ⟨dL_law_1045, rfl⟩) dL_law_1046 dL_law_1047 ha2 ?_
  refine g_callV (i := 0) (As := [.int (iI a1), .int (iI a2)]) (rest := []) K (c_M_release a1 a2 hr1 hr2 ho) (cwV 2 hts (gd_L gL_X12_release) rfl rfl rfl (by decide +kernel) ⟨Nat.le_of_ble_eq_true rfl, Nat.le_of_ble_eq_true rfl⟩) hK hW (mW_0 _ _ _ _ _) rfl rfl hl.1 rfl (Nat.le_of_ble_eq_true rfl) dL_law_1048 hrm.2.2.2 (fun v_ f_ H locs hp hW => ?_)
  obtain ⟨hpv, J2, aM2, qM2, hpe⟩ := hp
  rw [hpe] at hW
  subst hpv
  refine lv_istore (lv' := [(6, .int (iI (pRel S a1 a2).2.1)), (5, .int (iI (pRel S a1 a2).1)), (0, .ref b), (1, .ref (ad 0)), (2, .ref (ix 100)), (3, .ref o), (4, .int (iI (11 * (n : Int))))]) hx hb dL_law_1051 hl (by decide) rfl (fun ls hl => ?_)
  refine lv_aload_n hx hb dL_law_1053 rfl (lv_at hl 4 rfl) ?_
  refine g_callV (i := 0) (As := []) (rest := []) K c_M_thrown (cwV 0 hts (gd_L gL_X12_thrown) rfl rfl rfl (by decide +kernel) ⟨Nat.le_of_ble_eq_true rfl, Nat.le_of_ble_eq_true rfl⟩) hK hW (mW_0 _ _ _ _ _) rfl rfl hl.1 rfl (Nat.le_of_ble_eq_true rfl) dL_law_1054 hrm.2.2.2 (fun v_ f_ H locs hp hW => ?_)
  obtain ⟨hpv, hpe⟩ := hp
  rw [hpe] at hW
  subst hpv
  refine lv_iload hx hb dL_law_1057 (lv_at hl 1 rfl) ?_
  refine lv_icmp_eq (tgt := 1064) hx hb dL_law_1059 (by decide) (fun _ => ?_) (fun h => absurd rfl h)
  refine lv_iload hx hb dL_law_1064 (lv_at hl 1 rfl) ?_
  refine lv_if_ne (tgt := 1088) hx hb dL_law_1066 (by decide) (fun _ => ?_) (fun h => ?_)
  · skip
    refine lv_goto (tgt := 1966) hx hb dL_law_1088 (by decide) ?_
    exact kk (pRel S a1 a2).2.2 _ _ _ hJ ⟨ad2, bk2, I2, c2, q2, J2, aM2, qM2, (pRel S a1 a2).1, v2, had0, hPn, hEn, toX hwf2 hW, lv_sub hl [2, 3, 4, 5, 6] rfl⟩
  · have hc : (pRel S a1 a2).1 = 0 := iI_z (sGo_r _ _ _) h
    refine lv_aload_n hx hb dL_law_1069 rfl (lv_at hl 5 rfl) ?_
    refine xi_iconst hx hb dL_law_1070 ?_
    refine g_lald hx hb hK hW 300000 (n := 1) (g := v2) rfl (j := iI 0) (iI_in (by decide) (by decide) (by decide)) dL_law_1071 ?_
    rw [nat_0, hval hc]
    refine lv_iload hx hb dL_law_1072 (lv_at hl 0 rfl) ?_
    refine lv_if_eq (tgt := 1081) hx hb dL_law_1074 (by decide) (fun h => ?_) (fun h => ?_)
    · rw [if_pos h]
      refine lv_lconst (v := 0) hx hb dL_law_1081 (by decide) ?_
      refine xi_lcmp_eq (tgt := 1088) hx hb dL_law_1082 dL_law_1083 (by decide) (fun _ => ?_) (fun h => absurd rfl h)
      refine lv_goto (tgt := 1966) hx hb dL_law_1088 (by decide) ?_
      exact kk (pRel S a1 a2).2.2 _ _ _ hJ ⟨ad2, bk2, I2, c2, q2, J2, aM2, qM2, (pRel S a1 a2).1, v2, had0, hPn, hEn, toX hwf2 hW, lv_sub hl [2, 3, 4, 5, 6] rfl⟩
    · rw [if_neg h]
      refine lv_lconst (v := 1) hx hb dL_law_1077 (by decide) ?_
      refine lv_goto (tgt := 1082) hx hb dL_law_1078 (by decide) ?_
      refine xi_lcmp_eq (tgt := 1088) hx hb dL_law_1082 dL_law_1083 (by decide) (fun _ => ?_) (fun h => absurd rfl h)
      refine lv_goto (tgt := 1966) hx hb dL_law_1088 (by decide) ?_
      exact kk (pRel S a1 a2).2.2 _ _ _ hJ ⟨ad2, bk2, I2, c2, q2, J2, aM2, qM2, (pRel S a1 a2).1, v2, had0, hPn, hEn, toX hwf2 hW, lv_sub hl [2, 3, 4, 5, 6] rfl⟩
set_option maxHeartbeats 4000000 in
set_option maxRecDepth 100000 in
theorem lc_refuse {p : Program} {l : Launch} {e : Env} {s : State} {m : MethodId} {below : List Frame} {meth : Method} {c : Code} {H : Heap} {locs : List Loc} {ls : Array Slot} {D : va_G} {cy : Nat → ClassId} {B0 b L : Nat} {xs : Nat → Int32} {ix : Nat → Nat} {o x0 : Nat} {Q : State → Prop} {n : Nat} {S : ST} (C0 : lwC p l s m c D cy B0 b L xs) (hn : 11 * (n : Int) + 11 ≤ L) (hI : cI n S) (hw : lwI D cy B0 s ix o b x0 (11 * n) S H locs ls) (kk : lcK p l e s m below meth c D cy B0 b ix o x0 Q n S) : W p l e room_1 s m #[Value.ref b] below meth c H locs (lcC n S) (lcS n S) Q (F0 m 1091 ls []) := by
  obtain ⟨K, hK, hB, hX, hbl, hL, hst⟩ := C0
  obtain ⟨hx, hb, hml, hown, hts⟩ := id K
  obtain ⟨ad, bk, I, cX, qX, J, aM, qM, tM, v0, rfl, hP0, hE0, hW, hl⟩ := hw
  have hn5 : n < 512 := by omega
  have ho := hI.1.1
  have hwf := ho.1
  have he : S.1 31 0 + cNF S < 19900 := by have := hI.2.2.2.1; omega
  have h26 : S.1 26 0 < 100000 := by have := hI.2.2.2.2.1; omega
  have hlg := inv_lg4 hI.1.2.1 hI.1.2.2.1 hI.2.1
  have hs8 : S.1 8 0 < 60 → S.1 18 (S.1 8 0) ≠ 4 := fun h => by rw [(hI.1.2.2.2.2.2.2.2.2.2.1 _ (Int.le_refl _) h).1]; decide
  obtain ⟨a1, ha1⟩ : ∃ z, (xs (11 * (n : Int) + 1).toNat).toInt = z := ⟨_, rfl⟩
  have hr1 : rI a1 := ha1 ▸ rI_32 _
  refine lv_aload_n hx hb dL_law_1091 rfl (lv_at hl 1 rfl) ?_
  refine lw_arg (j := 1) (k := 4) (iz := 11 * (n : Int)) hx hb hX hbl hB hW (lv_at hl 0 rfl) (lv_at hl 4 rfl) (by omega) (by decide) (by omega) hL dL_law_1092 dL_law_1093 (Or.inl ⟨dL_law_1095, rfl⟩) dL_law_1096 dL_law_1097 ha1 ?_
  refine lv_aload_n hx hb dL_law_1098 rfl (lv_at hl 3 rfl) ?_
  have hJ : cJ n S (pRefu S a1).2.2 := cI_refuse hn5 hI a1
  have hwf2 : wf (pRefu S a1).2.2 := hJ.1.1.1.1
  have hrm := lc_room hn5 hI hJ
  refine g_xcallSH (As := [.ref (ad 0), .int (iI a1), .ref o]) (rest := []) K (c_L_refuse a1 hwf hr1 ho (legJ_W hI.1.2.1) he (lwG_n (by decide) (by decide)) (lwG_n (by decide) (by decide)) (lwG_n (by decide) (by decide)) hP0 hE0 hlg hst lwG_o) (vx_cwSW 3 hts (gd_L gL_L_refuse) rfl rfl rfl (by decide +kernel) ⟨Nat.le_of_ble_eq_true rfl, Nat.le_of_ble_eq_true rfl⟩) hK hW rfl hl.1 rfl (Nat.le_of_ble_eq_true rfl) dL_law_1099 hrm.1 (fun v_ f_ H locs hp hW => ?_)
  obtain ⟨hpv, ad2, bk2, I2, c2, q2, v2, had0, hPn, hEn, hval, hpe⟩ := hp
  rw [hpe, lwG_up] at hW
  subst hpv
  refine w_cs hrm.2.1 hrm.2.2.1 ?_
  refine lv_istore (lv' := [(5, .int (iI (pRefu S a1).1)), (0, .ref b), (1, .ref (ad 0)), (2, .ref (ix 100)), (3, .ref o), (4, .int (iI (11 * (n : Int))))]) hx hb dL_law_1102 hl (by decide) rfl (fun ls hl => ?_)
  have hW := toM hwf2 hW
  refine lv_aload_n hx hb dL_law_1104 rfl (lv_at hl 3 rfl) ?_
  refine lw_arg (j := 1) (k := 4) (iz := 11 * (n : Int)) hx hb hX hbl hB hW (lv_at hl 1 rfl) (lv_at hl 5 rfl) (by omega) (by decide) (by omega) hL dL_law_1105 dL_law_1106 (Or.inl ⟨dL_law_1108, rfl⟩) dL_law_1109 dL_law_1110 ha1 ?_
  refine g_callV (i := 0) (As := [.int (iI a1)]) (rest := []) K (c_M_refuse a1 hr1 ho hlg) (cwV 1 hts (gd_L gL_X12_refuse) rfl rfl rfl (by decide +kernel) ⟨Nat.le_of_ble_eq_true rfl, Nat.le_of_ble_eq_true rfl⟩) hK hW (mW_0 _ _ _ _ _) rfl rfl hl.1 rfl (Nat.le_of_ble_eq_true rfl) dL_law_1111 hrm.2.2.2 (fun v_ f_ H locs hp hW => ?_)
  obtain ⟨hpv, J2, aM2, qM2, hpe⟩ := hp
  rw [hpe] at hW
  subst hpv
  refine lv_istore (lv' := [(6, .int (iI (pRefu S a1).2.1)), (5, .int (iI (pRefu S a1).1)), (0, .ref b), (1, .ref (ad 0)), (2, .ref (ix 100)), (3, .ref o), (4, .int (iI (11 * (n : Int))))]) hx hb dL_law_1114 hl (by decide) rfl (fun ls hl => ?_)
  refine lv_aload_n hx hb dL_law_1116 rfl (lv_at hl 4 rfl) ?_
  refine g_callV (i := 0) (As := []) (rest := []) K c_M_thrown (cwV 0 hts (gd_L gL_X12_thrown) rfl rfl rfl (by decide +kernel) ⟨Nat.le_of_ble_eq_true rfl, Nat.le_of_ble_eq_true rfl⟩) hK hW (mW_0 _ _ _ _ _) rfl rfl hl.1 rfl (Nat.le_of_ble_eq_true rfl) dL_law_1117 hrm.2.2.2 (fun v_ f_ H locs hp hW => ?_)
  obtain ⟨hpv, hpe⟩ := hp
  rw [hpe] at hW
  subst hpv
  refine lv_iload hx hb dL_law_1120 (lv_at hl 1 rfl) ?_
  refine lv_icmp_eq (tgt := 1127) hx hb dL_law_1122 (by decide) (fun _ => ?_) (fun h => absurd rfl h)
  refine lv_iload hx hb dL_law_1127 (lv_at hl 1 rfl) ?_
  refine lv_if_ne (tgt := 1144) hx hb dL_law_1129 (by decide) (fun _ => ?_) (fun h => ?_)
  · skip
    refine lv_goto (tgt := 1966) hx hb dL_law_1144 (by decide) ?_
    exact kk (pRefu S a1).2.2 _ _ _ hJ ⟨ad2, bk2, I2, c2, q2, J2, aM2, qM2, (pRefu S a1).1, v2, had0, hPn, hEn, toX hwf2 hW, lv_sub hl [2, 3, 4, 5, 6] rfl⟩
  · have hc : (pRefu S a1).1 = 0 := iI_z (sGo_r _ _ _) h
    refine lv_aload_n hx hb dL_law_1132 rfl (lv_at hl 5 rfl) ?_
    refine xi_iconst hx hb dL_law_1133 ?_
    refine g_lald hx hb hK hW 300000 (n := 1) (g := v2) rfl (j := iI 0) (iI_in (by decide) (by decide) (by decide)) dL_law_1134 ?_
    rw [nat_0, hval hc]
    refine lv_iload hx hb dL_law_1135 (lv_at hl 0 rfl) ?_
    refine lv_i2l hx hb dL_law_1137 rfl ?_
    refine xi_lcmp_eq (tgt := 1144) hx hb dL_law_1138 dL_law_1139 (by decide) (fun _ => ?_) (fun h => absurd rfl h)
    refine lv_goto (tgt := 1966) hx hb dL_law_1144 (by decide) ?_
    exact kk (pRefu S a1).2.2 _ _ _ hJ ⟨ad2, bk2, I2, c2, q2, J2, aM2, qM2, (pRefu S a1).1, v2, had0, hPn, hEn, toX hwf2 hW, lv_sub hl [2, 3, 4, 5, 6] rfl⟩
set_option maxHeartbeats 4000000 in
set_option maxRecDepth 100000 in
theorem lc_offset {p : Program} {l : Launch} {e : Env} {s : State} {m : MethodId} {below : List Frame} {meth : Method} {c : Code} {H : Heap} {locs : List Loc} {ls : Array Slot} {D : va_G} {cy : Nat → ClassId} {B0 b L : Nat} {xs : Nat → Int32} {ix : Nat → Nat} {o x0 : Nat} {Q : State → Prop} {n : Nat} {S : ST} (C0 : lwC p l s m c D cy B0 b L xs) (hn : 11 * (n : Int) + 11 ≤ L) (hI : cI n S) (hw : lwI D cy B0 s ix o b x0 (11 * n) S H locs ls) (kk : lcK p l e s m below meth c D cy B0 b ix o x0 Q n S) : W p l e room_1 s m #[Value.ref b] below meth c H locs (lcC n S) (lcS n S) Q (F0 m 1147 ls []) := by
  obtain ⟨K, hK, hB, hX, hbl, hL, hst⟩ := C0
  obtain ⟨hx, hb, hml, hown, hts⟩ := id K
  obtain ⟨ad, bk, I, cX, qX, J, aM, qM, tM, v0, rfl, hP0, hE0, hW, hl⟩ := hw
  have hn5 : n < 512 := by omega
  have ho := hI.1.1
  have hwf := ho.1
  have he : S.1 31 0 + cNF S < 19900 := by have := hI.2.2.2.1; omega
  have h26 : S.1 26 0 < 100000 := by have := hI.2.2.2.2.1; omega
  have hlg := inv_lg4 hI.1.2.1 hI.1.2.2.1 hI.2.1
  have hs8 : S.1 8 0 < 60 → S.1 18 (S.1 8 0) ≠ 4 := fun h => by rw [(hI.1.2.2.2.2.2.2.2.2.2.1 _ (Int.le_refl _) h).1]; decide
  obtain ⟨a1, ha1⟩ : ∃ z, (xs (11 * (n : Int) + 1).toNat).toInt = z := ⟨_, rfl⟩
  have hr1 : rI a1 := ha1 ▸ rI_32 _
  refine lv_aload_n hx hb dL_law_1147 rfl (lv_at hl 1 rfl) ?_
  refine lw_arg (j := 1) (k := 4) (iz := 11 * (n : Int)) hx hb hX hbl hB hW (lv_at hl 0 rfl) (lv_at hl 4 rfl) (by omega) (by decide) (by omega) hL dL_law_1148 dL_law_1149 (Or.inl ⟨dL_law_1151, rfl⟩) dL_law_1152 dL_law_1153 ha1 ?_
  refine lv_aload_n hx hb dL_law_1154 rfl (lv_at hl 3 rfl) ?_
  have hJ : cJ n S (pOff S a1).2.2 := cI_offset hn5 hI a1
  have hwf2 : wf (pOff S a1).2.2 := hJ.1.1.1.1
  have hrm := lc_room hn5 hI hJ
  refine g_xcallSH (As := [.ref (ad 0), .int (iI a1), .ref o]) (rest := []) K (c_L_offset a1 hwf hr1 ho (legJ_W hI.1.2.1) he (lwG_n (by decide) (by decide)) (lwG_n (by decide) (by decide)) (lwG_n (by decide) (by decide)) hP0 hE0 hst lwG_o) (vx_cwSW 3 hts (gd_L gL_L_offset) rfl rfl rfl (by decide +kernel) ⟨Nat.le_of_ble_eq_true rfl, Nat.le_of_ble_eq_true rfl⟩) hK hW rfl hl.1 rfl (Nat.le_of_ble_eq_true rfl) dL_law_1155 hrm.1 (fun v_ f_ H locs hp hW => ?_)
  obtain ⟨hpv, ad2, bk2, I2, c2, q2, v2, had0, hPn, hEn, hval, hpe⟩ := hp
  rw [hpe, lwG_up] at hW
  subst hpv
  refine w_cs hrm.2.1 hrm.2.2.1 ?_
  refine lv_istore (lv' := [(5, .int (iI (pOff S a1).1)), (0, .ref b), (1, .ref (ad 0)), (2, .ref (ix 100)), (3, .ref o), (4, .int (iI (11 * (n : Int))))]) hx hb dL_law_1158 hl (by decide) rfl (fun ls hl => ?_)
  have hW := toM hwf2 hW
  refine lv_aload_n hx hb dL_law_1160 rfl (lv_at hl 3 rfl) ?_
  refine lw_arg (j := 1) (k := 4) (iz := 11 * (n : Int)) hx hb hX hbl hB hW (lv_at hl 1 rfl) (lv_at hl 5 rfl) (by omega) (by decide) (by omega) hL dL_law_1161 dL_law_1162 (Or.inl ⟨dL_law_1164, rfl⟩) dL_law_1165 dL_law_1166 ha1 ?_
  refine g_callV (i := 0) (As := [.int (iI a1)]) (rest := []) K (c_M_offset a1 hr1 ho) (cwV 1 hts (gd_L gL_X12_offset) rfl rfl rfl (by decide +kernel) ⟨Nat.le_of_ble_eq_true rfl, Nat.le_of_ble_eq_true rfl⟩) hK hW (mW_0 _ _ _ _ _) rfl rfl hl.1 rfl (Nat.le_of_ble_eq_true rfl) dL_law_1167 hrm.2.2.2 (fun v_ f_ H locs hp hW => ?_)
  obtain ⟨hpv, J2, aM2, qM2, hpe⟩ := hp
  rw [hpe] at hW
  subst hpv
  refine lv_istore (lv' := [(6, .int (iI (pOff S a1).2.1)), (5, .int (iI (pOff S a1).1)), (0, .ref b), (1, .ref (ad 0)), (2, .ref (ix 100)), (3, .ref o), (4, .int (iI (11 * (n : Int))))]) hx hb dL_law_1170 hl (by decide) rfl (fun ls hl => ?_)
  refine lv_aload_n hx hb dL_law_1172 rfl (lv_at hl 4 rfl) ?_
  refine g_callV (i := 0) (As := []) (rest := []) K c_M_thrown (cwV 0 hts (gd_L gL_X12_thrown) rfl rfl rfl (by decide +kernel) ⟨Nat.le_of_ble_eq_true rfl, Nat.le_of_ble_eq_true rfl⟩) hK hW (mW_0 _ _ _ _ _) rfl rfl hl.1 rfl (Nat.le_of_ble_eq_true rfl) dL_law_1173 hrm.2.2.2 (fun v_ f_ H locs hp hW => ?_)
  obtain ⟨hpv, hpe⟩ := hp
  rw [hpe] at hW
  subst hpv
  refine lv_iload hx hb dL_law_1176 (lv_at hl 1 rfl) ?_
  refine lv_icmp_eq (tgt := 1183) hx hb dL_law_1178 (by decide) (fun _ => ?_) (fun h => absurd rfl h)
  refine lv_iload hx hb dL_law_1183 (lv_at hl 1 rfl) ?_
  refine lv_if_ne (tgt := 1200) hx hb dL_law_1185 (by decide) (fun _ => ?_) (fun h => ?_)
  · skip
    refine lv_goto (tgt := 1966) hx hb dL_law_1200 (by decide) ?_
    exact kk (pOff S a1).2.2 _ _ _ hJ ⟨ad2, bk2, I2, c2, q2, J2, aM2, qM2, (pOff S a1).1, v2, had0, hPn, hEn, toX hwf2 hW, lv_sub hl [2, 3, 4, 5, 6] rfl⟩
  · have hc : (pOff S a1).1 = 0 := iI_z (sGo_r _ _ _) h
    refine lv_aload_n hx hb dL_law_1188 rfl (lv_at hl 5 rfl) ?_
    refine xi_iconst hx hb dL_law_1189 ?_
    refine g_lald hx hb hK hW 300000 (n := 1) (g := v2) rfl (j := iI 0) (iI_in (by decide) (by decide) (by decide)) dL_law_1190 ?_
    rw [nat_0, hval hc]
    refine lv_iload hx hb dL_law_1191 (lv_at hl 0 rfl) ?_
    refine lv_i2l hx hb dL_law_1193 rfl ?_
    refine xi_lcmp_eq (tgt := 1200) hx hb dL_law_1194 dL_law_1195 (by decide) (fun _ => ?_) (fun h => absurd rfl h)
    refine lv_goto (tgt := 1966) hx hb dL_law_1200 (by decide) ?_
    exact kk (pOff S a1).2.2 _ _ _ hJ ⟨ad2, bk2, I2, c2, q2, J2, aM2, qM2, (pOff S a1).1, v2, had0, hPn, hEn, toX hwf2 hW, lv_sub hl [2, 3, 4, 5, 6] rfl⟩
set_option maxHeartbeats 4000000 in
set_option maxRecDepth 100000 in
theorem lc_recall {p : Program} {l : Launch} {e : Env} {s : State} {m : MethodId} {below : List Frame} {meth : Method} {c : Code} {H : Heap} {locs : List Loc} {ls : Array Slot} {D : va_G} {cy : Nat → ClassId} {B0 b L : Nat} {xs : Nat → Int32} {ix : Nat → Nat} {o x0 : Nat} {Q : State → Prop} {n : Nat} {S : ST} (C0 : lwC p l s m c D cy B0 b L xs) (hn : 11 * (n : Int) + 11 ≤ L) (hI : cI n S) (hw : lwI D cy B0 s ix o b x0 (11 * n) S H locs ls) (kk : lcK p l e s m below meth c D cy B0 b ix o x0 Q n S) : W p l e room_1 s m #[Value.ref b] below meth c H locs (lcC n S) (lcS n S) Q (F0 m 1203 ls []) := by
  obtain ⟨K, hK, hB, hX, hbl, hL, hst⟩ := C0
  obtain ⟨hx, hb, hml, hown, hts⟩ := id K
  obtain ⟨ad, bk, I, cX, qX, J, aM, qM, tM, v0, rfl, hP0, hE0, hW, hl⟩ := hw
  have hn5 : n < 512 := by omega
  have ho := hI.1.1
  have hwf := ho.1
  have he : S.1 31 0 + cNF S < 19900 := by have := hI.2.2.2.1; omega
  have h26 : S.1 26 0 < 100000 := by have := hI.2.2.2.2.1; omega
  have hlg := inv_lg4 hI.1.2.1 hI.1.2.2.1 hI.2.1
  have hs8 : S.1 8 0 < 60 → S.1 18 (S.1 8 0) ≠ 4 := fun h => by rw [(hI.1.2.2.2.2.2.2.2.2.2.1 _ (Int.le_refl _) h).1]; decide
  obtain ⟨a1, ha1⟩ : ∃ z, (xs (11 * (n : Int) + 1).toNat).toInt = z := ⟨_, rfl⟩
  have hr1 : rI a1 := ha1 ▸ rI_32 _
  refine lv_aload_n hx hb dL_law_1203 rfl (lv_at hl 1 rfl) ?_
  refine lw_arg (j := 1) (k := 4) (iz := 11 * (n : Int)) hx hb hX hbl hB hW (lv_at hl 0 rfl) (lv_at hl 4 rfl) (by omega) (by decide) (by omega) hL dL_law_1204 dL_law_1205 (Or.inl ⟨dL_law_1207, rfl⟩) dL_law_1208 dL_law_1209 ha1 ?_
  refine lv_aload_n hx hb dL_law_1210 rfl (lv_at hl 3 rfl) ?_
  have hJ : cJ n S (pRec S a1).2.2 := cI_recall hI a1
  have hwf2 : wf (pRec S a1).2.2 := hJ.1.1.1.1
  have hrm := lc_room hn5 hI hJ
  refine g_xcallSH (As := [.ref (ad 0), .int (iI a1), .ref o]) (rest := []) K (c_L_recall a1 hwf hr1 ho (legJ_W hI.1.2.1) he (lwG_n (by decide) (by decide)) (lwG_n (by decide) (by decide)) (lwG_n (by decide) (by decide)) hP0 hE0 hI.1.2.2.2.2.2.2.2.2.2.2.2 hI.1.2.2.2.2.2.2.2.1 hI.2.2.1 hst lwG_o) (vx_cwSW 3 hts (gd_L gL_L_recall) rfl rfl rfl (by decide +kernel) ⟨Nat.le_of_ble_eq_true rfl, Nat.le_of_ble_eq_true rfl⟩) hK hW rfl hl.1 rfl (Nat.le_of_ble_eq_true rfl) dL_law_1211 hrm.1 (fun v_ f_ H locs hp hW => ?_)
  obtain ⟨hpv, ad2, bk2, I2, c2, q2, v2, had0, hPn, hEn, hval, hpe⟩ := hp
  rw [hpe, lwG_up] at hW
  subst hpv
  refine w_cs hrm.2.1 hrm.2.2.1 ?_
  refine lv_istore (lv' := [(5, .int (iI (pRec S a1).1)), (0, .ref b), (1, .ref (ad 0)), (2, .ref (ix 100)), (3, .ref o), (4, .int (iI (11 * (n : Int))))]) hx hb dL_law_1214 hl (by decide) rfl (fun ls hl => ?_)
  have hW := toM hwf2 hW
  refine lv_aload_n hx hb dL_law_1216 rfl (lv_at hl 3 rfl) ?_
  refine lw_arg (j := 1) (k := 4) (iz := 11 * (n : Int)) hx hb hX hbl hB hW (lv_at hl 1 rfl) (lv_at hl 5 rfl) (by omega) (by decide) (by omega) hL dL_law_1217 dL_law_1218 (Or.inl ⟨dL_law_1220, rfl⟩) dL_law_1221 dL_law_1222 ha1 ?_
  refine g_callV (i := 0) (As := [.int (iI a1)]) (rest := []) K (c_M_recall a1 hr1 ho) (cwV 1 hts (gd_L gL_X12_recall) rfl rfl rfl (by decide +kernel) ⟨Nat.le_of_ble_eq_true rfl, Nat.le_of_ble_eq_true rfl⟩) hK hW (mW_0 _ _ _ _ _) rfl rfl hl.1 rfl (Nat.le_of_ble_eq_true rfl) dL_law_1223 hrm.2.2.2 (fun v_ f_ H locs hp hW => ?_)
  obtain ⟨hpv, J2, aM2, qM2, hpe⟩ := hp
  rw [hpe] at hW
  subst hpv
  refine lv_istore (lv' := [(6, .int (iI (pRec S a1).2.1)), (5, .int (iI (pRec S a1).1)), (0, .ref b), (1, .ref (ad 0)), (2, .ref (ix 100)), (3, .ref o), (4, .int (iI (11 * (n : Int))))]) hx hb dL_law_1226 hl (by decide) rfl (fun ls hl => ?_)
  refine lv_aload_n hx hb dL_law_1228 rfl (lv_at hl 4 rfl) ?_
  refine g_callV (i := 0) (As := []) (rest := []) K c_M_thrown (cwV 0 hts (gd_L gL_X12_thrown) rfl rfl rfl (by decide +kernel) ⟨Nat.le_of_ble_eq_true rfl, Nat.le_of_ble_eq_true rfl⟩) hK hW (mW_0 _ _ _ _ _) rfl rfl hl.1 rfl (Nat.le_of_ble_eq_true rfl) dL_law_1229 hrm.2.2.2 (fun v_ f_ H locs hp hW => ?_)
  obtain ⟨hpv, hpe⟩ := hp
  rw [hpe] at hW
  subst hpv
  refine lv_iload hx hb dL_law_1232 (lv_at hl 1 rfl) ?_
  refine lv_icmp_eq (tgt := 1239) hx hb dL_law_1234 (by decide) (fun _ => ?_) (fun h => absurd rfl h)
  refine lv_iload hx hb dL_law_1239 (lv_at hl 1 rfl) ?_
  refine lv_if_ne (tgt := 1256) hx hb dL_law_1241 (by decide) (fun _ => ?_) (fun h => ?_)
  · skip
    refine lv_goto (tgt := 1966) hx hb dL_law_1256 (by decide) ?_
    exact kk (pRec S a1).2.2 _ _ _ hJ ⟨ad2, bk2, I2, c2, q2, J2, aM2, qM2, (pRec S a1).1, v2, had0, hPn, hEn, toX hwf2 hW, lv_sub hl [2, 3, 4, 5, 6] rfl⟩
  · have hc : (pRec S a1).1 = 0 := iI_z (sGo_r _ _ _) h
    refine lv_aload_n hx hb dL_law_1244 rfl (lv_at hl 5 rfl) ?_
    refine xi_iconst hx hb dL_law_1245 ?_
    refine g_lald hx hb hK hW 300000 (n := 1) (g := v2) rfl (j := iI 0) (iI_in (by decide) (by decide) (by decide)) dL_law_1246 ?_
    rw [nat_0, hval hc]
    refine lv_iload hx hb dL_law_1247 (lv_at hl 0 rfl) ?_
    refine lv_i2l hx hb dL_law_1249 rfl ?_
    refine xi_lcmp_eq (tgt := 1256) hx hb dL_law_1250 dL_law_1251 (by decide) (fun _ => ?_) (fun h => absurd rfl h)
    refine lv_goto (tgt := 1966) hx hb dL_law_1256 (by decide) ?_
    exact kk (pRec S a1).2.2 _ _ _ hJ ⟨ad2, bk2, I2, c2, q2, J2, aM2, qM2, (pRec S a1).1, v2, had0, hPn, hEn, toX hwf2 hW, lv_sub hl [2, 3, 4, 5, 6] rfl⟩
set_option maxHeartbeats 4000000 in
set_option maxRecDepth 100000 in
theorem lc_answer {p : Program} {l : Launch} {e : Env} {s : State} {m : MethodId} {below : List Frame} {meth : Method} {c : Code} {H : Heap} {locs : List Loc} {ls : Array Slot} {D : va_G} {cy : Nat → ClassId} {B0 b L : Nat} {xs : Nat → Int32} {ix : Nat → Nat} {o x0 : Nat} {Q : State → Prop} {n : Nat} {S : ST} (C0 : lwC p l s m c D cy B0 b L xs) (hn : 11 * (n : Int) + 11 ≤ L) (hI : cI n S) (hw : lwI D cy B0 s ix o b x0 (11 * n) S H locs ls) (kk : lcK p l e s m below meth c D cy B0 b ix o x0 Q n S) : W p l e room_1 s m #[Value.ref b] below meth c H locs (lcC n S) (lcS n S) Q (F0 m 1259 ls []) := by
  obtain ⟨K, hK, hB, hX, hbl, hL, hst⟩ := C0
  obtain ⟨hx, hb, hml, hown, hts⟩ := id K
  obtain ⟨ad, bk, I, cX, qX, J, aM, qM, tM, v0, rfl, hP0, hE0, hW, hl⟩ := hw
  have hn5 : n < 512 := by omega
  have ho := hI.1.1
  have hwf := ho.1
  have he : S.1 31 0 + cNF S < 19900 := by have := hI.2.2.2.1; omega
  have h26 : S.1 26 0 < 100000 := by have := hI.2.2.2.2.1; omega
  have hlg := inv_lg4 hI.1.2.1 hI.1.2.2.1 hI.2.1
  have hs8 : S.1 8 0 < 60 → S.1 18 (S.1 8 0) ≠ 4 := fun h => by rw [(hI.1.2.2.2.2.2.2.2.2.2.1 _ (Int.le_refl _) h).1]; decide
  obtain ⟨a1, ha1⟩ : ∃ z, (xs (11 * (n : Int) + 1).toNat).toInt = z := ⟨_, rfl⟩
  have hr1 : rI a1 := ha1 ▸ rI_32 _
  obtain ⟨a2, ha2⟩ : ∃ z, (xs (11 * (n : Int) + 2).toNat).toInt = z := ⟨_, rfl⟩
  refine lv_aload_n hx hb dL_law_1259 rfl (lv_at hl 1 rfl) ?_
  refine lw_arg (j := 1) (k := 4) (iz := 11 * (n : Int)) hx hb hX hbl hB hW (lv_at hl 0 rfl) (lv_at hl 4 rfl) (by omega) (by decide) (by omega) hL dL_law_1260 dL_law_1261 (Or.inl ⟨dL_law_1263, rfl⟩) dL_law_1264 dL_law_1265 ha1 ?_
  refine lw_argB (j := 2) (k := 4) (iz := 11 * (n : Int)) hx hb hX hbl hB hW (lv_at hl 0 rfl) (lv_at hl 4 rfl) (by omega) (by decide) (by omega) hL dL_law_1266 dL_law_1267 (Or.inl ⟨dL_law_1269, rfl⟩) dL_law_1270 dL_law_1271 dL_law_1272 dL_law_1275 dL_law_1276 dL_law_1279 ha2 ?_
  refine lv_aload_n hx hb dL_law_1280 rfl (lv_at hl 3 rfl) ?_
  have hJ : cJ n S (pAns S a1 (bz a2)).2.2 := cI_answer hn5 hI a1 (bz a2)
  have hwf2 : wf (pAns S a1 (bz a2)).2.2 := hJ.1.1.1.1
  have hrm := lc_room hn5 hI hJ
  refine g_xcallSH (As := [.ref (ad 0), .int (iI a1), .int (iI (bI (bz a2))), .ref o]) (rest := []) K (c_L_answer a1 (bz a2) hwf hr1 ho (legJ_W hI.1.2.1) he (lwG_n (by decide) (by decide)) (lwG_n (by decide) (by decide)) (lwG_n (by decide) (by decide)) hP0 hE0 hI.1.2.2.2.2.2.2.2.1 hI.2.2.1 hI.1.2.2.2.2.2.2.2.2.2.1 hst lwG_o) (vx_cwSW 4 hts (gd_L gL_L_answer) rfl rfl rfl (by decide +kernel) ⟨Nat.le_of_ble_eq_true rfl, Nat.le_of_ble_eq_true rfl⟩) hK hW rfl hl.1 rfl (Nat.le_of_ble_eq_true rfl) dL_law_1281 hrm.1 (fun v_ f_ H locs hp hW => ?_)
  obtain ⟨hpv, ad2, bk2, I2, c2, q2, v2, had0, hPn, hEn, hval, hpe⟩ := hp
  rw [hpe, lwG_up] at hW
  subst hpv
  refine w_cs hrm.2.1 hrm.2.2.1 ?_
  refine lv_istore (lv' := [(5, .int (iI (pAns S a1 (bz a2)).1)), (0, .ref b), (1, .ref (ad 0)), (2, .ref (ix 100)), (3, .ref o), (4, .int (iI (11 * (n : Int))))]) hx hb dL_law_1284 hl (by decide) rfl (fun ls hl => ?_)
  have hW := toM hwf2 hW
  refine lv_aload_n hx hb dL_law_1286 rfl (lv_at hl 3 rfl) ?_
  refine lw_arg (j := 1) (k := 4) (iz := 11 * (n : Int)) hx hb hX hbl hB hW (lv_at hl 1 rfl) (lv_at hl 5 rfl) (by omega) (by decide) (by omega) hL dL_law_1287 dL_law_1288 (Or.inl ⟨dL_law_1290, rfl⟩) dL_law_1291 dL_law_1292 ha1 ?_
  refine lw_argB (j := 2) (k := 4) (iz := 11 * (n : Int)) hx hb hX hbl hB hW (lv_at hl 1 rfl) (lv_at hl 5 rfl) (by omega) (by decide) (by omega) hL dL_law_1293 dL_law_1294 (Or.inl ⟨dL_law_1296, rfl⟩) dL_law_1297 dL_law_1298 dL_law_1299 dL_law_1302 dL_law_1303 dL_law_1306 ha2 ?_
  refine g_callV (i := 0) (As := [.int (iI a1), .int (iI (bI (bz a2)))]) (rest := []) K (c_M_answer a1 (bz a2) hr1 ho hs8) (cwV 2 hts (gd_L gL_X12_answer) rfl rfl rfl (by decide +kernel) ⟨Nat.le_of_ble_eq_true rfl, Nat.le_of_ble_eq_true rfl⟩) hK hW (mW_0 _ _ _ _ _) rfl rfl hl.1 rfl (Nat.le_of_ble_eq_true rfl) dL_law_1307 hrm.2.2.2 (fun v_ f_ H locs hp hW => ?_)
  obtain ⟨hpv, J2, aM2, qM2, hpe⟩ := hp
  rw [hpe] at hW
  subst hpv
  refine lv_istore (lv' := [(6, .int (iI (pAns S a1 (bz a2)).2.1)), (5, .int (iI (pAns S a1 (bz a2)).1)), (0, .ref b), (1, .ref (ad 0)), (2, .ref (ix 100)), (3, .ref o), (4, .int (iI (11 * (n : Int))))]) hx hb dL_law_1310 hl (by decide) rfl (fun ls hl => ?_)
  refine lv_aload_n hx hb dL_law_1312 rfl (lv_at hl 4 rfl) ?_
  refine g_callV (i := 0) (As := []) (rest := []) K c_M_thrown (cwV 0 hts (gd_L gL_X12_thrown) rfl rfl rfl (by decide +kernel) ⟨Nat.le_of_ble_eq_true rfl, Nat.le_of_ble_eq_true rfl⟩) hK hW (mW_0 _ _ _ _ _) rfl rfl hl.1 rfl (Nat.le_of_ble_eq_true rfl) dL_law_1313 hrm.2.2.2 (fun v_ f_ H locs hp hW => ?_)
  obtain ⟨hpv, hpe⟩ := hp
  rw [hpe] at hW
  subst hpv
  refine lv_iload hx hb dL_law_1316 (lv_at hl 1 rfl) ?_
  refine lv_icmp_eq (tgt := 1323) hx hb dL_law_1318 (by decide) (fun _ => ?_) (fun h => absurd rfl h)
  refine lv_iload hx hb dL_law_1323 (lv_at hl 1 rfl) ?_
  refine lv_if_ne (tgt := 1340) hx hb dL_law_1325 (by decide) (fun _ => ?_) (fun h => ?_)
  · skip
    refine lv_goto (tgt := 1966) hx hb dL_law_1340 (by decide) ?_
    exact kk (pAns S a1 (bz a2)).2.2 _ _ _ hJ ⟨ad2, bk2, I2, c2, q2, J2, aM2, qM2, (pAns S a1 (bz a2)).1, v2, had0, hPn, hEn, toX hwf2 hW, lv_sub hl [2, 3, 4, 5, 6] rfl⟩
  · have hc : (pAns S a1 (bz a2)).1 = 0 := iI_z (sGo_r _ _ _) h
    refine lv_aload_n hx hb dL_law_1328 rfl (lv_at hl 5 rfl) ?_
    refine xi_iconst hx hb dL_law_1329 ?_
    refine g_lald hx hb hK hW 300000 (n := 1) (g := v2) rfl (j := iI 0) (iI_in (by decide) (by decide) (by decide)) dL_law_1330 ?_
    rw [nat_0, hval hc]
    refine lv_iload hx hb dL_law_1331 (lv_at hl 0 rfl) ?_
    refine lv_i2l hx hb dL_law_1333 rfl ?_
    refine xi_lcmp_eq (tgt := 1340) hx hb dL_law_1334 dL_law_1335 (by decide) (fun _ => ?_) (fun h => absurd rfl h)
    refine lv_goto (tgt := 1966) hx hb dL_law_1340 (by decide) ?_
    exact kk (pAns S a1 (bz a2)).2.2 _ _ _ hJ ⟨ad2, bk2, I2, c2, q2, J2, aM2, qM2, (pAns S a1 (bz a2)).1, v2, had0, hPn, hEn, toX hwf2 hW, lv_sub hl [2, 3, 4, 5, 6] rfl⟩
set_option maxHeartbeats 4000000 in
set_option maxRecDepth 100000 in
theorem lc_endDay {p : Program} {l : Launch} {e : Env} {s : State} {m : MethodId} {below : List Frame} {meth : Method} {c : Code} {H : Heap} {locs : List Loc} {ls : Array Slot} {D : va_G} {cy : Nat → ClassId} {B0 b L : Nat} {xs : Nat → Int32} {ix : Nat → Nat} {o x0 : Nat} {Q : State → Prop} {n : Nat} {S : ST} (C0 : lwC p l s m c D cy B0 b L xs) (hn : 11 * (n : Int) + 11 ≤ L) (hI : cI n S) (hw : lwI D cy B0 s ix o b x0 (11 * n) S H locs ls) (kk : lcK p l e s m below meth c D cy B0 b ix o x0 Q n S) : W p l e room_1 s m #[Value.ref b] below meth c H locs (lcC n S) (lcS n S) Q (F0 m 1343 ls []) := by
  obtain ⟨K, hK, hB, hX, hbl, hL, hst⟩ := C0
  obtain ⟨hx, hb, hml, hown, hts⟩ := id K
  obtain ⟨ad, bk, I, cX, qX, J, aM, qM, tM, v0, rfl, hP0, hE0, hW, hl⟩ := hw
  have hn5 : n < 512 := by omega
  have ho := hI.1.1
  have hwf := ho.1
  have he : S.1 31 0 + cNF S < 19900 := by have := hI.2.2.2.1; omega
  have h26 : S.1 26 0 < 100000 := by have := hI.2.2.2.2.1; omega
  have hlg := inv_lg4 hI.1.2.1 hI.1.2.2.1 hI.2.1
  have hs8 : S.1 8 0 < 60 → S.1 18 (S.1 8 0) ≠ 4 := fun h => by rw [(hI.1.2.2.2.2.2.2.2.2.2.1 _ (Int.le_refl _) h).1]; decide
  refine lv_aload_n hx hb dL_law_1343 rfl (lv_at hl 1 rfl) ?_
  refine lv_aload_n hx hb dL_law_1344 rfl (lv_at hl 3 rfl) ?_
  have hJ : cJ n S (pEnd S).2.2 := cI_endDay hn5 hI 
  have hwf2 : wf (pEnd S).2.2 := hJ.1.1.1.1
  have hrm := lc_room hn5 hI hJ
  refine g_xcallSH (As := [.ref (ad 0), .ref o]) (rest := []) K (c_L_endDay  hwf ho (legJ_W hI.1.2.1) he (lwG_n (by decide) (by decide)) (lwG_n (by decide) (by decide)) (lwG_n (by decide) (by decide)) hP0 hE0 hlg (fin_pre hI.1 hI.2.1).1.2.2.2.2.2.2.2.2.2.2.2 (pre_balB hn5 hI) hst lwG_o) (vx_cwSW 2 hts (gd_L gL_L_endDay) rfl rfl rfl (by decide +kernel) ⟨Nat.le_of_ble_eq_true rfl, Nat.le_of_ble_eq_true rfl⟩) hK hW rfl hl.1 rfl (Nat.le_of_ble_eq_true rfl) dL_law_1345 hrm.1 (fun v_ f_ H locs hp hW => ?_)
  obtain ⟨hpv, ad2, bk2, I2, c2, q2, v2, had0, hPn, hEn, hval, hpe⟩ := hp
  rw [hpe, lwG_up] at hW
  subst hpv
  refine w_cs hrm.2.1 hrm.2.2.1 ?_
  refine lv_istore (lv' := [(5, .int (iI (pEnd S).1)), (0, .ref b), (1, .ref (ad 0)), (2, .ref (ix 100)), (3, .ref o), (4, .int (iI (11 * (n : Int))))]) hx hb dL_law_1348 hl (by decide) rfl (fun ls hl => ?_)
  have hW := toM hwf2 hW
  refine lv_aload_n hx hb dL_law_1350 rfl (lv_at hl 3 rfl) ?_
  refine g_callV (i := 0) (As := []) (rest := []) K (c_M_endDay  ho hlg (by omega)) (cwV 0 hts (gd_L gL_X12_endDay) rfl rfl rfl (by decide +kernel) ⟨Nat.le_of_ble_eq_true rfl, Nat.le_of_ble_eq_true rfl⟩) hK hW (mW_0 _ _ _ _ _) rfl rfl hl.1 rfl (Nat.le_of_ble_eq_true rfl) dL_law_1351 hrm.2.2.2 (fun v_ f_ H locs hp hW => ?_)
  obtain ⟨hpv, J2, aM2, qM2, hpe⟩ := hp
  rw [hpe] at hW
  subst hpv
  refine lv_istore (lv' := [(6, .int (iI (pEnd S).2.1)), (5, .int (iI (pEnd S).1)), (0, .ref b), (1, .ref (ad 0)), (2, .ref (ix 100)), (3, .ref o), (4, .int (iI (11 * (n : Int))))]) hx hb dL_law_1354 hl (by decide) rfl (fun ls hl => ?_)
  refine lv_aload_n hx hb dL_law_1356 rfl (lv_at hl 4 rfl) ?_
  refine g_callV (i := 0) (As := []) (rest := []) K c_M_thrown (cwV 0 hts (gd_L gL_X12_thrown) rfl rfl rfl (by decide +kernel) ⟨Nat.le_of_ble_eq_true rfl, Nat.le_of_ble_eq_true rfl⟩) hK hW (mW_0 _ _ _ _ _) rfl rfl hl.1 rfl (Nat.le_of_ble_eq_true rfl) dL_law_1357 hrm.2.2.2 (fun v_ f_ H locs hp hW => ?_)
  obtain ⟨hpv, hpe⟩ := hp
  rw [hpe] at hW
  subst hpv
  refine lv_iload hx hb dL_law_1360 (lv_at hl 1 rfl) ?_
  refine lv_icmp_eq (tgt := 1367) hx hb dL_law_1362 (by decide) (fun _ => ?_) (fun h => absurd rfl h)
  refine lv_iload hx hb dL_law_1367 (lv_at hl 1 rfl) ?_
  refine lv_if_ne (tgt := 1384) hx hb dL_law_1369 (by decide) (fun _ => ?_) (fun h => ?_)
  · skip
    refine lv_goto (tgt := 1966) hx hb dL_law_1384 (by decide) ?_
    exact kk (pEnd S).2.2 _ _ _ hJ ⟨ad2, bk2, I2, c2, q2, J2, aM2, qM2, (pEnd S).1, v2, had0, hPn, hEn, toX hwf2 hW, lv_sub hl [2, 3, 4, 5, 6] rfl⟩
  · have hc : (pEnd S).1 = 0 := iI_z (sGo_r _ _ _) h
    refine lv_aload_n hx hb dL_law_1372 rfl (lv_at hl 5 rfl) ?_
    refine xi_iconst hx hb dL_law_1373 ?_
    refine g_lald hx hb hK hW 300000 (n := 1) (g := v2) rfl (j := iI 0) (iI_in (by decide) (by decide) (by decide)) dL_law_1374 ?_
    rw [nat_0, hval hc]
    refine lv_iload hx hb dL_law_1375 (lv_at hl 0 rfl) ?_
    refine lv_i2l hx hb dL_law_1377 rfl ?_
    refine xi_lcmp_eq (tgt := 1384) hx hb dL_law_1378 dL_law_1379 (by decide) (fun _ => ?_) (fun h => absurd rfl h)
    refine lv_goto (tgt := 1966) hx hb dL_law_1384 (by decide) ?_
    exact kk (pEnd S).2.2 _ _ _ hJ ⟨ad2, bk2, I2, c2, q2, J2, aM2, qM2, (pEnd S).1, v2, had0, hPn, hEn, toX hwf2 hW, lv_sub hl [2, 3, 4, 5, 6] rfl⟩
set_option maxHeartbeats 4000000 in
set_option maxRecDepth 100000 in
theorem lc_today {p : Program} {l : Launch} {e : Env} {s : State} {m : MethodId} {below : List Frame} {meth : Method} {c : Code} {H : Heap} {locs : List Loc} {ls : Array Slot} {D : va_G} {cy : Nat → ClassId} {B0 b L : Nat} {xs : Nat → Int32} {ix : Nat → Nat} {o x0 : Nat} {Q : State → Prop} {n : Nat} {S : ST} (C0 : lwC p l s m c D cy B0 b L xs) (hn : 11 * (n : Int) + 11 ≤ L) (hI : cI n S) (hw : lwI D cy B0 s ix o b x0 (11 * n) S H locs ls) (kk : lcK p l e s m below meth c D cy B0 b ix o x0 Q n S) : W p l e room_1 s m #[Value.ref b] below meth c H locs (lcC n S) (lcS n S) Q (F0 m 1387 ls []) := by
  obtain ⟨K, hK, hB, hX, hbl, hL, hst⟩ := C0
  obtain ⟨hx, hb, hml, hown, hts⟩ := id K
  obtain ⟨ad, bk, I, cX, qX, J, aM, qM, tM, v0, rfl, hP0, hE0, hW, hl⟩ := hw
  have hn5 : n < 512 := by omega
  have ho := hI.1.1
  have hwf := ho.1
  have he : S.1 31 0 + cNF S < 19900 := by have := hI.2.2.2.1; omega
  have h26 : S.1 26 0 < 100000 := by have := hI.2.2.2.2.1; omega
  have hlg := inv_lg4 hI.1.2.1 hI.1.2.2.1 hI.2.1
  have hs8 : S.1 8 0 < 60 → S.1 18 (S.1 8 0) ≠ 4 := fun h => by rw [(hI.1.2.2.2.2.2.2.2.2.2.1 _ (Int.le_refl _) h).1]; decide
  refine lv_aload_n hx hb dL_law_1387 rfl (lv_at hl 1 rfl) ?_
  have hrm := lc_up (S := S) hn5 hI
  refine g_callV (i := 100000 + 0) (As := []) (rest := []) K (c_X11_today hwf) (cwV 0 hts (gd_L gL_X11_today) rfl rfl rfl (by decide +kernel) ⟨Nat.le_of_ble_eq_true rfl, Nat.le_of_ble_eq_true rfl⟩) hK hW (kW_at rfl) rfl rfl hl.1 rfl (Nat.le_of_ble_eq_true rfl) dL_law_1388 hrm.1 (fun v_ f_ H locs hp hW => ?_)
  obtain ⟨hpv, hpe⟩ := hp
  rw [hpe] at hW
  subst hpv
  have hW := toM hwf hW
  refine lv_aload_n hx hb dL_law_1391 rfl (lv_at hl 2 rfl) ?_
  refine g_callV (i := 0) (As := []) (rest := [.int (iI (S.1 0 0))]) K (c_M_today hwf) (cwV 0 hts (gd_L gL_X12_today) rfl rfl rfl (by decide +kernel) ⟨Nat.le_of_ble_eq_true rfl, Nat.le_of_ble_eq_true rfl⟩) hK hW (mW_0 _ _ _ _ _) rfl rfl hl.1 rfl (Nat.le_of_ble_eq_true rfl) dL_law_1392 hrm.1 (fun v_ f_ H locs hp hW => ?_)
  obtain ⟨hpv, hpe⟩ := hp
  rw [hpe] at hW
  subst hpv
  refine lv_icmp_eq (tgt := 1966) hx hb dL_law_1395 (by decide) (fun _ => ?_) (fun h => absurd rfl h)
  exact W.widen hrm.2.1 hrm.2.2 (kk S _ _ _ (cI_up hI) ⟨ad, bk, I, cX, qX, J, aM, qM, 0, v0, rfl, hP0, hE0, toX hwf hW, hl⟩)
set_option maxHeartbeats 4000000 in
set_option maxRecDepth 100000 in
theorem lc_account {p : Program} {l : Launch} {e : Env} {s : State} {m : MethodId} {below : List Frame} {meth : Method} {c : Code} {H : Heap} {locs : List Loc} {ls : Array Slot} {D : va_G} {cy : Nat → ClassId} {B0 b L : Nat} {xs : Nat → Int32} {ix : Nat → Nat} {o x0 : Nat} {Q : State → Prop} {n : Nat} {S : ST} (C0 : lwC p l s m c D cy B0 b L xs) (hn : 11 * (n : Int) + 11 ≤ L) (hI : cI n S) (hw : lwI D cy B0 s ix o b x0 (11 * n) S H locs ls) (kk : lcK p l e s m below meth c D cy B0 b ix o x0 Q n S) : W p l e room_1 s m #[Value.ref b] below meth c H locs (lcC n S) (lcS n S) Q (F0 m 1400 ls []) := by
  obtain ⟨K, hK, hB, hX, hbl, hL, hst⟩ := C0
  obtain ⟨hx, hb, hml, hown, hts⟩ := id K
  obtain ⟨ad, bk, I, cX, qX, J, aM, qM, tM, v0, rfl, hP0, hE0, hW, hl⟩ := hw
  have hn5 : n < 512 := by omega
  have ho := hI.1.1
  have hwf := ho.1
  have he : S.1 31 0 + cNF S < 19900 := by have := hI.2.2.2.1; omega
  have h26 : S.1 26 0 < 100000 := by have := hI.2.2.2.2.1; omega
  have hlg := inv_lg4 hI.1.2.1 hI.1.2.2.1 hI.2.1
  have hs8 : S.1 8 0 < 60 → S.1 18 (S.1 8 0) ≠ 4 := fun h => by rw [(hI.1.2.2.2.2.2.2.2.2.2.1 _ (Int.le_refl _) h).1]; decide
  obtain ⟨a1, ha1⟩ : ∃ z, (xs (11 * (n : Int) + 1).toNat).toInt = z := ⟨_, rfl⟩
  have hr1 : rI a1 := ha1 ▸ rI_32 _
  obtain ⟨a2, ha2⟩ : ∃ z, (xs (11 * (n : Int) + 2).toNat).toInt = z := ⟨_, rfl⟩
  have hr2 : rI a2 := ha2 ▸ rI_32 _
  refine lv_aload_n hx hb dL_law_1400 rfl (lv_at hl 1 rfl) ?_
  refine lw_arg (j := 1) (k := 4) (iz := 11 * (n : Int)) hx hb hX hbl hB hW (lv_at hl 0 rfl) (lv_at hl 4 rfl) (by omega) (by decide) (by omega) hL dL_law_1401 dL_law_1402 (Or.inl ⟨dL_law_1404, rfl⟩) dL_law_1405 dL_law_1406 ha1 ?_
  refine lw_arg (j := 2) (k := 4) (iz := 11 * (n : Int)) hx hb hX hbl hB hW (lv_at hl 0 rfl) (lv_at hl 4 rfl) (by omega) (by decide) (by omega) hL dL_law_1407 dL_law_1408 (Or.inl ⟨dL_law_1410, rfl⟩) dL_law_1411 dL_law_1412 ha2 ?_
  refine lv_aload_n hx hb dL_law_1413 rfl (lv_at hl 3 rfl) ?_
  have hJ : cJ n S (pAcc S a1 a2).2.2 := cI_acc hI a1 a2
  have hwf2 : wf (pAcc S a1 a2).2.2 := hJ.1.1.1.1
  have hrm := lc_room hn5 hI hJ
  refine g_xcallSH (As := [.ref (ad 0), .int (iI a1), .int (iI a2), .ref o]) (rest := []) K (c_L_account a1 a2 hwf hr1 hr2 ho (legJ_W hI.1.2.1) he (lwG_n (by decide) (by decide)) (lwG_n (by decide) (by decide)) (lwG_n (by decide) (by decide)) hP0 hE0 hst lwG_o) (vx_cwSW 4 hts (gd_L gL_L_account) rfl rfl rfl (by decide +kernel) ⟨Nat.le_of_ble_eq_true rfl, Nat.le_of_ble_eq_true rfl⟩) hK hW rfl hl.1 rfl (Nat.le_of_ble_eq_true rfl) dL_law_1414 hrm.1 (fun v_ f_ H locs hp hW => ?_)
  obtain ⟨hpv, ad2, bk2, I2, c2, q2, v2, had0, hPn, hEn, hval, hpe⟩ := hp
  rw [hpe, lwG_up] at hW
  subst hpv
  refine w_cs hrm.2.1 hrm.2.2.1 ?_
  refine lv_istore (lv' := [(5, .int (iI (pAcc S a1 a2).1)), (0, .ref b), (1, .ref (ad 0)), (2, .ref (ix 100)), (3, .ref o), (4, .int (iI (11 * (n : Int))))]) hx hb dL_law_1417 hl (by decide) rfl (fun ls hl => ?_)
  have hW := toM hwf2 hW
  refine lv_aload_n hx hb dL_law_1419 rfl (lv_at hl 3 rfl) ?_
  refine lw_arg (j := 1) (k := 4) (iz := 11 * (n : Int)) hx hb hX hbl hB hW (lv_at hl 1 rfl) (lv_at hl 5 rfl) (by omega) (by decide) (by omega) hL dL_law_1420 dL_law_1421 (Or.inl ⟨dL_law_1423, rfl⟩) dL_law_1424 dL_law_1425 ha1 ?_
  refine lw_arg (j := 2) (k := 4) (iz := 11 * (n : Int)) hx hb hX hbl hB hW (lv_at hl 1 rfl) (lv_at hl 5 rfl) (by omega) (by decide) (by omega) hL dL_law_1426 dL_law_1427 (Or.inl ⟨dL_law_1429, rfl⟩) dL_law_1430 dL_law_1431 ha2 ?_
  refine g_callV (i := 0) (As := [.int (iI a1), .int (iI a2)]) (rest := []) K (c_M_account a1 a2 hr1 hr2 ho) (cwV 2 hts (gd_L gL_X12_account) rfl rfl rfl (by decide +kernel) ⟨Nat.le_of_ble_eq_true rfl, Nat.le_of_ble_eq_true rfl⟩) hK hW (mW_0 _ _ _ _ _) rfl rfl hl.1 rfl (Nat.le_of_ble_eq_true rfl) dL_law_1432 hrm.2.2.2 (fun v_ f_ H locs hp hW => ?_)
  obtain ⟨hpv, J2, aM2, qM2, hpe⟩ := hp
  rw [hpe] at hW
  subst hpv
  refine lv_lstore (lv' := [(6, .long (pAcc S a1 a2).2.1), (5, .int (iI (pAcc S a1 a2).1)), (0, .ref b), (1, .ref (ad 0)), (2, .ref (ix 100)), (3, .ref o), (4, .int (iI (11 * (n : Int))))]) hx hb dL_law_1435 hl (by decide) rfl (fun ls hl => ?_)
  refine lv_aload_n hx hb dL_law_1437 rfl (lv_at hl 4 rfl) ?_
  refine g_callV (i := 0) (As := []) (rest := []) K c_M_thrown (cwV 0 hts (gd_L gL_X12_thrown) rfl rfl rfl (by decide +kernel) ⟨Nat.le_of_ble_eq_true rfl, Nat.le_of_ble_eq_true rfl⟩) hK hW (mW_0 _ _ _ _ _) rfl rfl hl.1 rfl (Nat.le_of_ble_eq_true rfl) dL_law_1438 hrm.2.2.2 (fun v_ f_ H locs hp hW => ?_)
  obtain ⟨hpv, hpe⟩ := hp
  rw [hpe] at hW
  subst hpv
  refine lv_iload hx hb dL_law_1441 (lv_at hl 1 rfl) ?_
  refine lv_icmp_eq (tgt := 1448) hx hb dL_law_1443 (by decide) (fun _ => ?_) (fun h => absurd rfl h)
  refine lv_iload hx hb dL_law_1448 (lv_at hl 1 rfl) ?_
  refine lv_if_ne (tgt := 1464) hx hb dL_law_1450 (by decide) (fun _ => ?_) (fun h => ?_)
  · skip
    refine lv_goto (tgt := 1966) hx hb dL_law_1464 (by decide) ?_
    exact kk (pAcc S a1 a2).2.2 _ _ _ hJ ⟨ad2, bk2, I2, c2, q2, J2, aM2, qM2, (pAcc S a1 a2).1, v2, had0, hPn, hEn, toX hwf2 hW, lv_sub hl [2, 3, 4, 5, 6] rfl⟩
  · have hc : (pAcc S a1 a2).1 = 0 := iI_z (sGo_r _ _ _) h
    refine lv_aload_n hx hb dL_law_1453 rfl (lv_at hl 5 rfl) ?_
    refine xi_iconst hx hb dL_law_1454 ?_
    refine g_lald hx hb hK hW 300000 (n := 1) (g := v2) rfl (j := iI 0) (iI_in (by decide) (by decide) (by decide)) dL_law_1455 ?_
    rw [nat_0, hval hc]
    refine lv_lload hx hb dL_law_1456 (lv_at hl 0 rfl) ?_
    refine xi_lcmp_eq (tgt := 1464) hx hb dL_law_1458 dL_law_1459 (by decide) (fun _ => ?_) (fun h => absurd rfl h)
    refine lv_goto (tgt := 1966) hx hb dL_law_1464 (by decide) ?_
    exact kk (pAcc S a1 a2).2.2 _ _ _ hJ ⟨ad2, bk2, I2, c2, q2, J2, aM2, qM2, (pAcc S a1 a2).1, v2, had0, hPn, hEn, toX hwf2 hW, lv_sub hl [2, 3, 4, 5, 6] rfl⟩
