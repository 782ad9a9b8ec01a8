set_option maxHeartbeats 4000000 in
set_option maxRecDepth 100000 in
theorem lc_accountAnew {p : Program} {l : Launch} {e : Env} {s : State} {m : MethodId} {below : List Frame} {meth : Method} {c : Code} {H : Heap} {locs : List Loc} {ls : Array Slot} {D : va_G} {cy : Nat → ClassId} {B0 b L : Nat} {xs : Nat → Int32} {ix : Nat → Nat} {o x0 : Nat} {Q : State → Prop} {n : Nat} {S : ST} (C0 : lwC p l s m c D cy B0 b L xs) (hn : 11 * (n : Int) + 11 ≤ L) (hI : cI n S) (hw : lwI D cy B0 s ix o b x0 (11 * n) S H locs ls) (kk : lcK p l e s m below meth c D cy B0 b ix o x0 Q n S) : W p l e room_1 s m #[Value.ref b] below meth c H locs (lcC n S) (lcS n S) Q (F0 m 1467 ls []) := by
  obtain ⟨K, hK, hB, hX, hbl, hL, hst⟩ := C0
  obtain ⟨hx, hb, hml, hown, hts⟩ := id K
  obtain ⟨ad, bk, I, cX, qX, J, aM, qM, tM, v0, rfl, hP0, hE0, hW, hl⟩ := hw
  have hn5 : n < 512 := by omega
  have ho := hI.1.1
  have hwf := ho.1
  have he : S.1 31 0 + cNF S < 19900 := by have := hI.2.2.2.1; omega
  have h26 : S.1 26 0 < 100000 := by have := hI.2.2.2.2.1; omega
  have hlg := inv_lg4 hI.1.2.1 hI.1.2.2.1 hI.2.1
  have hs8 : S.1 8 0 < 60 → S.1 18 (S.1 8 0) ≠ 4 := fun h => by rw [(hI.1.2.2.2.2.2.2.2.2.2.1 _ (Int.le_refl _) h).1]; decide
  obtain ⟨a1, ha1⟩ : ∃ z, (xs (11 * (n : Int) + 1).toNat).toInt = z := ⟨_, rfl⟩
  have hr1 : rI a1 := ha1 ▸ rI_32 _
  obtain ⟨a2, ha2⟩ : ∃ z, (xs (11 * (n : Int) + 2).toNat).toInt = z := ⟨_, rfl⟩
  have hr2 : rI a2 := ha2 ▸ rI_32 _
  refine lv_aload_n hx hb dL_law_1467 rfl (lv_at hl 1 rfl) ?_
  refine lw_arg (j := 1) (k := 4) (iz := 11 * (n : Int)) hx hb hX hbl hB hW (lv_at hl 0 rfl) (lv_at hl 4 rfl) (by omega) (by decide) (by omega) hL dL_law_1468 dL_law_1469 (Or.inl ⟨dL_law_1471, rfl⟩) dL_law_1472 dL_law_1473 ha1 ?_
  refine lw_arg (j := 2) (k := 4) (iz := 11 * (n : Int)) hx hb hX hbl hB hW (lv_at hl 0 rfl) (lv_at hl 4 rfl) (by omega) (by decide) (by omega) hL dL_law_1474 dL_law_1475 (Or.inl ⟨dL_law_1477, rfl⟩) dL_law_1478 dL_law_1479 ha2 ?_
  refine lv_aload_n hx hb dL_law_1480 rfl (lv_at hl 3 rfl) ?_
  have hJ : cJ n S (pAnew S a1 a2).2.2 := cI_anew hI a1 a2
  have hwf2 : wf (pAnew S a1 a2).2.2 := hJ.1.1.1.1
  have hrm := lc_room hn5 hI hJ
  refine g_xcallSH (As := [.ref (ad 0), .int (iI a1), .int (iI a2), .ref o]) (rest := []) K (c_L_accountAnew a1 a2 hwf hr1 hr2 ho (legJ_W hI.1.2.1) he (lwG_n (by decide) (by decide)) (lwG_n (by decide) (by decide)) (lwG_n (by decide) (by decide)) hP0 hE0 hI.1.2.2.2.1 hst lwG_o) (vx_cwSW 4 hts (gd_L gL_L_accountAnew) rfl rfl rfl (by decide +kernel) ⟨Nat.le_of_ble_eq_true rfl, Nat.le_of_ble_eq_true rfl⟩) hK hW rfl hl.1 rfl (Nat.le_of_ble_eq_true rfl) dL_law_1481 hrm.1 (fun v_ f_ H locs hp hW => ?_)
  obtain ⟨hpv, ad2, bk2, I2, c2, q2, v2, had0, hPn, hEn, hval, hpe⟩ := hp
  rw [hpe, lwG_up] at hW
  subst hpv
  refine w_cs hrm.2.1 hrm.2.2.1 ?_
  refine lv_istore (lv' := [(5, .int (iI (pAnew S a1 a2).1)), (0, .ref b), (1, .ref (ad 0)), (2, .ref (ix 100)), (3, .ref o), (4, .int (iI (11 * (n : Int))))]) hx hb dL_law_1484 hl (by decide) rfl (fun ls hl => ?_)
  have hW := toM hwf2 hW
  refine lv_aload_n hx hb dL_law_1486 rfl (lv_at hl 3 rfl) ?_
  refine lw_arg (j := 1) (k := 4) (iz := 11 * (n : Int)) hx hb hX hbl hB hW (lv_at hl 1 rfl) (lv_at hl 5 rfl) (by omega) (by decide) (by omega) hL dL_law_1487 dL_law_1488 (Or.inl ⟨dL_law_1490, rfl⟩) dL_law_1491 dL_law_1492 ha1 ?_
  refine lw_arg (j := 2) (k := 4) (iz := 11 * (n : Int)) hx hb hX hbl hB hW (lv_at hl 1 rfl) (lv_at hl 5 rfl) (by omega) (by decide) (by omega) hL dL_law_1493 dL_law_1494 (Or.inl ⟨dL_law_1496, rfl⟩) dL_law_1497 dL_law_1498 ha2 ?_
  refine g_callV (i := 0) (As := [.int (iI a1), .int (iI a2)]) (rest := []) K (c_M_accountAnew a1 a2 hr1 hr2 ho) (cwV 2 hts (gd_L gL_X12_accountAnew) rfl rfl rfl (by decide +kernel) ⟨Nat.le_of_ble_eq_true rfl, Nat.le_of_ble_eq_true rfl⟩) hK hW (mW_0 _ _ _ _ _) rfl rfl hl.1 rfl (Nat.le_of_ble_eq_true rfl) dL_law_1499 hrm.2.2.2 (fun v_ f_ H locs hp hW => ?_)
  obtain ⟨hpv, J2, aM2, qM2, hpe⟩ := hp
  rw [hpe] at hW
  subst hpv
  refine lv_lstore (lv' := [(6, .long (pAnew S a1 a2).2.1), (5, .int (iI (pAnew S a1 a2).1)), (0, .ref b), (1, .ref (ad 0)), (2, .ref (ix 100)), (3, .ref o), (4, .int (iI (11 * (n : Int))))]) hx hb dL_law_1502 hl (by decide) rfl (fun ls hl => ?_)
  refine lv_aload_n hx hb dL_law_1504 rfl (lv_at hl 4 rfl) ?_
  refine g_callV (i := 0) (As := []) (rest := []) K c_M_thrown (cwV 0 hts (gd_L gL_X12_thrown) rfl rfl rfl (by decide +kernel) ⟨Nat.le_of_ble_eq_true rfl, Nat.le_of_ble_eq_true rfl⟩) hK hW (mW_0 _ _ _ _ _) rfl rfl hl.1 rfl (Nat.le_of_ble_eq_true rfl) dL_law_1505 hrm.2.2.2 (fun v_ f_ H locs hp hW => ?_)
  obtain ⟨hpv, hpe⟩ := hp
  rw [hpe] at hW
  subst hpv
  refine lv_iload hx hb dL_law_1508 (lv_at hl 1 rfl) ?_
  refine lv_icmp_eq (tgt := 1515) hx hb dL_law_1510 (by decide) (fun _ => ?_) (fun h => absurd rfl h)
  refine lv_iload hx hb dL_law_1515 (lv_at hl 1 rfl) ?_
  refine lv_if_ne (tgt := 1531) hx hb dL_law_1517 (by decide) (fun _ => ?_) (fun h => ?_)
  · skip
    refine lv_goto (tgt := 1966) hx hb dL_law_1531 (by decide) ?_
    exact kk (pAnew S a1 a2).2.2 _ _ _ hJ ⟨ad2, bk2, I2, c2, q2, J2, aM2, qM2, (pAnew S a1 a2).1, v2, had0, hPn, hEn, toX hwf2 hW, lv_sub hl [2, 3, 4, 5, 6] rfl⟩
  · have hc : (pAnew S a1 a2).1 = 0 := iI_z (sGo_r _ _ _) h
    refine lv_aload_n hx hb dL_law_1520 rfl (lv_at hl 5 rfl) ?_
    refine xi_iconst hx hb dL_law_1521 ?_
    refine g_lald hx hb hK hW 300000 (n := 1) (g := v2) rfl (j := iI 0) (iI_in (by decide) (by decide) (by decide)) dL_law_1522 ?_
    rw [nat_0, hval hc]
    refine lv_lload hx hb dL_law_1523 (lv_at hl 0 rfl) ?_
    refine xi_lcmp_eq (tgt := 1531) hx hb dL_law_1525 dL_law_1526 (by decide) (fun _ => ?_) (fun h => absurd rfl h)
    refine lv_goto (tgt := 1966) hx hb dL_law_1531 (by decide) ?_
    exact kk (pAnew S a1 a2).2.2 _ _ _ hJ ⟨ad2, bk2, I2, c2, q2, J2, aM2, qM2, (pAnew S a1 a2).1, v2, had0, hPn, hEn, toX hwf2 hW, lv_sub hl [2, 3, 4, 5, 6] rfl⟩
set_option maxHeartbeats 4000000 in
set_option maxRecDepth 100000 in
theorem lc_paid {p : Program} {l : Launch} {e : Env} {s : State} {m : MethodId} {below : List Frame} {meth : Method} {c : Code} {H : Heap} {locs : List Loc} {ls : Array Slot} {D : va_G} {cy : Nat → ClassId} {B0 b L : Nat} {xs : Nat → Int32} {ix : Nat → Nat} {o x0 : Nat} {Q : State → Prop} {n : Nat} {S : ST} (C0 : lwC p l s m c D cy B0 b L xs) (hn : 11 * (n : Int) + 11 ≤ L) (hI : cI n S) (hw : lwI D cy B0 s ix o b x0 (11 * n) S H locs ls) (kk : lcK p l e s m below meth c D cy B0 b ix o x0 Q n S) : W p l e room_1 s m #[Value.ref b] below meth c H locs (lcC n S) (lcS n S) Q (F0 m 1534 ls []) := by
  obtain ⟨K, hK, hB, hX, hbl, hL, hst⟩ := C0
  obtain ⟨hx, hb, hml, hown, hts⟩ := id K
  obtain ⟨ad, bk, I, cX, qX, J, aM, qM, tM, v0, rfl, hP0, hE0, hW, hl⟩ := hw
  have hn5 : n < 512 := by omega
  have ho := hI.1.1
  have hwf := ho.1
  have he : S.1 31 0 + cNF S < 19900 := by have := hI.2.2.2.1; omega
  have h26 : S.1 26 0 < 100000 := by have := hI.2.2.2.2.1; omega
  have hlg := inv_lg4 hI.1.2.1 hI.1.2.2.1 hI.2.1
  have hs8 : S.1 8 0 < 60 → S.1 18 (S.1 8 0) ≠ 4 := fun h => by rw [(hI.1.2.2.2.2.2.2.2.2.2.1 _ (Int.le_refl _) h).1]; decide
  obtain ⟨a1, ha1⟩ : ∃ z, (xs (11 * (n : Int) + 1).toNat).toInt = z := ⟨_, rfl⟩
  have hr1 : rI a1 := ha1 ▸ rI_32 _
  obtain ⟨a2, ha2⟩ : ∃ z, (xs (11 * (n : Int) + 2).toNat).toInt = z := ⟨_, rfl⟩
  have hr2 : rI a2 := ha2 ▸ rI_32 _
  obtain ⟨a3, ha3⟩ : ∃ z, (xs (11 * (n : Int) + 3).toNat).toInt = z := ⟨_, rfl⟩
  have hr3 : rI a3 := ha3 ▸ rI_32 _
  refine lv_aload_n hx hb dL_law_1534 rfl (lv_at hl 1 rfl) ?_
  refine lw_arg (j := 1) (k := 4) (iz := 11 * (n : Int)) hx hb hX hbl hB hW (lv_at hl 0 rfl) (lv_at hl 4 rfl) (by omega) (by decide) (by omega) hL dL_law_1535 dL_law_1536 (Or.inl ⟨dL_law_1538, rfl⟩) dL_law_1539 dL_law_1540 ha1 ?_
  refine lw_arg (j := 2) (k := 4) (iz := 11 * (n : Int)) hx hb hX hbl hB hW (lv_at hl 0 rfl) (lv_at hl 4 rfl) (by omega) (by decide) (by omega) hL dL_law_1541 dL_law_1542 (Or.inl ⟨dL_law_1544, rfl⟩) dL_law_1545 dL_law_1546 ha2 ?_
  refine lw_arg (j := 3) (k := 4) (iz := 11 * (n : Int)) hx hb hX hbl hB hW (lv_at hl 0 rfl) (lv_at hl 4 rfl) (by omega) (by decide) (by omega) hL dL_law_1547 dL_law_1548 (Or.inl ⟨dL_law_1550, rfl⟩) dL_law_1551 dL_law_1552 ha3 ?_
  refine lv_aload_n hx hb dL_law_1553 rfl (lv_at hl 3 rfl) ?_
  have hJ : cJ n S (pPaid S a1 a2 a3).2.2 := cI_paid hI a1 a2 a3
  have hwf2 : wf (pPaid S a1 a2 a3).2.2 := hJ.1.1.1.1
  have hrm := lc_room hn5 hI hJ
  refine g_xcallSH (As := [.ref (ad 0), .int (iI a1), .int (iI a2), .int (iI a3), .ref o]) (rest := []) K (c_L_paid a1 a2 a3 hwf hr1 hr2 hr3 ho (legJ_W hI.1.2.1) he (lwG_n (by decide) (by decide)) (lwG_n (by decide) (by decide)) (lwG_n (by decide) (by decide)) hP0 hE0 hst lwG_o) (vx_cwSW 5 hts (gd_L gL_L_paid) rfl rfl rfl (by decide +kernel) ⟨Nat.le_of_ble_eq_true rfl, Nat.le_of_ble_eq_true rfl⟩) hK hW rfl hl.1 rfl (Nat.le_of_ble_eq_true rfl) dL_law_1554 hrm.1 (fun v_ f_ H locs hp hW => ?_)
  obtain ⟨hpv, ad2, bk2, I2, c2, q2, v2, had0, hPn, hEn, hval, hpe⟩ := hp
  rw [hpe, lwG_up] at hW
  subst hpv
  refine w_cs hrm.2.1 hrm.2.2.1 ?_
  refine lv_istore (lv' := [(5, .int (iI (pPaid S a1 a2 a3).1)), (0, .ref b), (1, .ref (ad 0)), (2, .ref (ix 100)), (3, .ref o), (4, .int (iI (11 * (n : Int))))]) hx hb dL_law_1557 hl (by decide) rfl (fun ls hl => ?_)
  have hW := toM hwf2 hW
  refine lv_aload_n hx hb dL_law_1559 rfl (lv_at hl 3 rfl) ?_
  refine lw_arg (j := 1) (k := 4) (iz := 11 * (n : Int)) hx hb hX hbl hB hW (lv_at hl 1 rfl) (lv_at hl 5 rfl) (by omega) (by decide) (by omega) hL dL_law_1560 dL_law_1561 (Or.inl ⟨dL_law_1563, rfl⟩) dL_law_1564 dL_law_1565 ha1 ?_
  refine lw_arg (j := 2) (k := 4) (iz := 11 * (n : Int)) hx hb hX hbl hB hW (lv_at hl 1 rfl) (lv_at hl 5 rfl) (by omega) (by decide) (by omega) hL dL_law_1566 dL_law_1567 (Or.inl ⟨dL_law_1569, rfl⟩) dL_law_1570 dL_law_1571 ha2 ?_
  refine lw_arg (j := 3) (k := 4) (iz := 11 * (n : Int)) hx hb hX hbl hB hW (lv_at hl 1 rfl) (lv_at hl 5 rfl) (by omega) (by decide) (by omega) hL dL_law_1572 dL_law_1573 (Or.inl ⟨dL_law_1575, rfl⟩) dL_law_1576 dL_law_1577 ha3 ?_
  refine g_callV (i := 0) (As := [.int (iI a1), .int (iI a2), .int (iI a3)]) (rest := []) K (c_M_paid a1 a2 a3 hr1 hr2 hr3 ho) (cwV 3 hts (gd_L gL_X12_paid) rfl rfl rfl (by decide +kernel) ⟨Nat.le_of_ble_eq_true rfl, Nat.le_of_ble_eq_true rfl⟩) hK hW (mW_0 _ _ _ _ _) rfl rfl hl.1 rfl (Nat.le_of_ble_eq_true rfl) dL_law_1578 hrm.2.2.2 (fun v_ f_ H locs hp hW => ?_)
  obtain ⟨hpv, J2, aM2, qM2, hpe⟩ := hp
  rw [hpe] at hW
  subst hpv
  refine lv_lstore (lv' := [(6, .long (pPaid S a1 a2 a3).2.1), (5, .int (iI (pPaid S a1 a2 a3).1)), (0, .ref b), (1, .ref (ad 0)), (2, .ref (ix 100)), (3, .ref o), (4, .int (iI (11 * (n : Int))))]) hx hb dL_law_1581 hl (by decide) rfl (fun ls hl => ?_)
  refine lv_aload_n hx hb dL_law_1583 rfl (lv_at hl 4 rfl) ?_
  refine g_callV (i := 0) (As := []) (rest := []) K c_M_thrown (cwV 0 hts (gd_L gL_X12_thrown) rfl rfl rfl (by decide +kernel) ⟨Nat.le_of_ble_eq_true rfl, Nat.le_of_ble_eq_true rfl⟩) hK hW (mW_0 _ _ _ _ _) rfl rfl hl.1 rfl (Nat.le_of_ble_eq_true rfl) dL_law_1584 hrm.2.2.2 (fun v_ f_ H locs hp hW => ?_)
  obtain ⟨hpv, hpe⟩ := hp
  rw [hpe] at hW
  subst hpv
  refine lv_iload hx hb dL_law_1587 (lv_at hl 1 rfl) ?_
  refine lv_icmp_eq (tgt := 1594) hx hb dL_law_1589 (by decide) (fun _ => ?_) (fun h => absurd rfl h)
  refine lv_iload hx hb dL_law_1594 (lv_at hl 1 rfl) ?_
  refine lv_if_ne (tgt := 1610) hx hb dL_law_1596 (by decide) (fun _ => ?_) (fun h => ?_)
  · skip
    refine lv_goto (tgt := 1966) hx hb dL_law_1610 (by decide) ?_
    exact kk (pPaid S a1 a2 a3).2.2 _ _ _ hJ ⟨ad2, bk2, I2, c2, q2, J2, aM2, qM2, (pPaid S a1 a2 a3).1, v2, had0, hPn, hEn, toX hwf2 hW, lv_sub hl [2, 3, 4, 5, 6] rfl⟩
  · have hc : (pPaid S a1 a2 a3).1 = 0 := iI_z (sGo_r _ _ _) h
    refine lv_aload_n hx hb dL_law_1599 rfl (lv_at hl 5 rfl) ?_
    refine xi_iconst hx hb dL_law_1600 ?_
    refine g_lald hx hb hK hW 300000 (n := 1) (g := v2) rfl (j := iI 0) (iI_in (by decide) (by decide) (by decide)) dL_law_1601 ?_
    rw [nat_0, hval hc]
    refine lv_lload hx hb dL_law_1602 (lv_at hl 0 rfl) ?_
    refine xi_lcmp_eq (tgt := 1610) hx hb dL_law_1604 dL_law_1605 (by decide) (fun _ => ?_) (fun h => absurd rfl h)
    refine lv_goto (tgt := 1966) hx hb dL_law_1610 (by decide) ?_
    exact kk (pPaid S a1 a2 a3).2.2 _ _ _ hJ ⟨ad2, bk2, I2, c2, q2, J2, aM2, qM2, (pPaid S a1 a2 a3).1, v2, had0, hPn, hEn, toX hwf2 hW, lv_sub hl [2, 3, 4, 5, 6] rfl⟩
set_option maxHeartbeats 4000000 in
set_option maxRecDepth 100000 in
theorem lc_payments {p : Program} {l : Launch} {e : Env} {s : State} {m : MethodId} {below : List Frame} {meth : Method} {c : Code} {H : Heap} {locs : List Loc} {ls : Array Slot} {D : va_G} {cy : Nat → ClassId} {B0 b L : Nat} {xs : Nat → Int32} {ix : Nat → Nat} {o x0 : Nat} {Q : State → Prop} {n : Nat} {S : ST} (C0 : lwC p l s m c D cy B0 b L xs) (hn : 11 * (n : Int) + 11 ≤ L) (hI : cI n S) (hw : lwI D cy B0 s ix o b x0 (11 * n) S H locs ls) (kk : lcK p l e s m below meth c D cy B0 b ix o x0 Q n S) : W p l e room_1 s m #[Value.ref b] below meth c H locs (lcC n S) (lcS n S) Q (F0 m 1613 ls []) := by
  obtain ⟨K, hK, hB, hX, hbl, hL, hst⟩ := C0
  obtain ⟨hx, hb, hml, hown, hts⟩ := id K
  obtain ⟨ad, bk, I, cX, qX, J, aM, qM, tM, v0, rfl, hP0, hE0, hW, hl⟩ := hw
  have hn5 : n < 512 := by omega
  have ho := hI.1.1
  have hwf := ho.1
  have he : S.1 31 0 + cNF S < 19900 := by have := hI.2.2.2.1; omega
  have h26 : S.1 26 0 < 100000 := by have := hI.2.2.2.2.1; omega
  have hlg := inv_lg4 hI.1.2.1 hI.1.2.2.1 hI.2.1
  have hs8 : S.1 8 0 < 60 → S.1 18 (S.1 8 0) ≠ 4 := fun h => by rw [(hI.1.2.2.2.2.2.2.2.2.2.1 _ (Int.le_refl _) h).1]; decide
  refine lv_aload_n hx hb dL_law_1613 rfl (lv_at hl 1 rfl) ?_
  have hrm := lc_up (S := S) hn5 hI
  refine g_callV (i := 100000 + 0) (As := []) (rest := []) K (c_X11_payments hwf) (cwV 0 hts (gd_L gL_X11_payments) rfl rfl rfl (by decide +kernel) ⟨Nat.le_of_ble_eq_true rfl, Nat.le_of_ble_eq_true rfl⟩) hK hW (kW_at rfl) rfl rfl hl.1 rfl (Nat.le_of_ble_eq_true rfl) dL_law_1614 hrm.1 (fun v_ f_ H locs hp hW => ?_)
  obtain ⟨hpv, hpe⟩ := hp
  rw [hpe] at hW
  subst hpv
  have hW := toM hwf hW
  refine lv_aload_n hx hb dL_law_1617 rfl (lv_at hl 2 rfl) ?_
  refine g_callV (i := 0) (As := []) (rest := [.int (iI (S.1 8 0))]) K (c_M_payments hwf) (cwV 0 hts (gd_L gL_X12_payments) rfl rfl rfl (by decide +kernel) ⟨Nat.le_of_ble_eq_true rfl, Nat.le_of_ble_eq_true rfl⟩) hK hW (mW_0 _ _ _ _ _) rfl rfl hl.1 rfl (Nat.le_of_ble_eq_true rfl) dL_law_1618 hrm.1 (fun v_ f_ H locs hp hW => ?_)
  obtain ⟨hpv, hpe⟩ := hp
  rw [hpe] at hW
  subst hpv
  refine lv_icmp_eq (tgt := 1966) hx hb dL_law_1621 (by decide) (fun _ => ?_) (fun h => absurd rfl h)
  exact W.widen hrm.2.1 hrm.2.2 (kk S _ _ _ (cI_up hI) ⟨ad, bk, I, cX, qX, J, aM, qM, 0, v0, rfl, hP0, hE0, toX hwf hW, hl⟩)
set_option maxHeartbeats 4000000 in
set_option maxRecDepth 100000 in
theorem lc_stateOf {p : Program} {l : Launch} {e : Env} {s : State} {m : MethodId} {below : List Frame} {meth : Method} {c : Code} {H : Heap} {locs : List Loc} {ls : Array Slot} {D : va_G} {cy : Nat → ClassId} {B0 b L : Nat} {xs : Nat → Int32} {ix : Nat → Nat} {o x0 : Nat} {Q : State → Prop} {n : Nat} {S : ST} (C0 : lwC p l s m c D cy B0 b L xs) (hn : 11 * (n : Int) + 11 ≤ L) (hI : cI n S) (hw : lwI D cy B0 s ix o b x0 (11 * n) S H locs ls) (kk : lcK p l e s m below meth c D cy B0 b ix o x0 Q n S) : W p l e room_1 s m #[Value.ref b] below meth c H locs (lcC n S) (lcS n S) Q (F0 m 1626 ls []) := by
  obtain ⟨K, hK, hB, hX, hbl, hL, hst⟩ := C0
  obtain ⟨hx, hb, hml, hown, hts⟩ := id K
  obtain ⟨ad, bk, I, cX, qX, J, aM, qM, tM, v0, rfl, hP0, hE0, hW, hl⟩ := hw
  have hn5 : n < 512 := by omega
  have ho := hI.1.1
  have hwf := ho.1
  have he : S.1 31 0 + cNF S < 19900 := by have := hI.2.2.2.1; omega
  have h26 : S.1 26 0 < 100000 := by have := hI.2.2.2.2.1; omega
  have hlg := inv_lg4 hI.1.2.1 hI.1.2.2.1 hI.2.1
  have hs8 : S.1 8 0 < 60 → S.1 18 (S.1 8 0) ≠ 4 := fun h => by rw [(hI.1.2.2.2.2.2.2.2.2.2.1 _ (Int.le_refl _) h).1]; decide
  obtain ⟨a1, ha1⟩ : ∃ z, (xs (11 * (n : Int) + 1).toNat).toInt = z := ⟨_, rfl⟩
  have hr1 : rI a1 := ha1 ▸ rI_32 _
  refine lv_aload_n hx hb dL_law_1626 rfl (lv_at hl 1 rfl) ?_
  refine lw_arg (j := 1) (k := 4) (iz := 11 * (n : Int)) hx hb hX hbl hB hW (lv_at hl 0 rfl) (lv_at hl 4 rfl) (by omega) (by decide) (by omega) hL dL_law_1627 dL_law_1628 (Or.inl ⟨dL_law_1630, rfl⟩) dL_law_1631 dL_law_1632 ha1 ?_
  refine lv_aload_n hx hb dL_law_1633 rfl (lv_at hl 3 rfl) ?_
  have hJ : cJ n S (pStat S a1).2.2 := cI_stat hI a1
  have hwf2 : wf (pStat S a1).2.2 := hJ.1.1.1.1
  have hrm := lc_room hn5 hI hJ
  refine g_xcallSH (As := [.ref (ad 0), .int (iI a1), .ref o]) (rest := []) K (c_L_stateOf a1 hwf hr1 ho (legJ_W hI.1.2.1) he (lwG_n (by decide) (by decide)) (lwG_n (by decide) (by decide)) (lwG_n (by decide) (by decide)) hP0 hE0 hst lwG_o) (vx_cwSW 3 hts (gd_L gL_L_stateOf) rfl rfl rfl (by decide +kernel) ⟨Nat.le_of_ble_eq_true rfl, Nat.le_of_ble_eq_true rfl⟩) hK hW rfl hl.1 rfl (Nat.le_of_ble_eq_true rfl) dL_law_1634 hrm.1 (fun v_ f_ H locs hp hW => ?_)
  obtain ⟨hpv, ad2, bk2, I2, c2, q2, v2, had0, hPn, hEn, hval, hpe⟩ := hp
  rw [hpe, lwG_up] at hW
  subst hpv
  refine w_cs hrm.2.1 hrm.2.2.1 ?_
  refine lv_istore (lv' := [(5, .int (iI (pStat S a1).1)), (0, .ref b), (1, .ref (ad 0)), (2, .ref (ix 100)), (3, .ref o), (4, .int (iI (11 * (n : Int))))]) hx hb dL_law_1637 hl (by decide) rfl (fun ls hl => ?_)
  have hW := toM hwf2 hW
  refine lv_aload_n hx hb dL_law_1639 rfl (lv_at hl 3 rfl) ?_
  refine lw_arg (j := 1) (k := 4) (iz := 11 * (n : Int)) hx hb hX hbl hB hW (lv_at hl 1 rfl) (lv_at hl 5 rfl) (by omega) (by decide) (by omega) hL dL_law_1640 dL_law_1641 (Or.inl ⟨dL_law_1643, rfl⟩) dL_law_1644 dL_law_1645 ha1 ?_
  refine g_callV (i := 0) (As := [.int (iI a1)]) (rest := []) K (c_M_stateOf a1 hr1 ho) (cwV 1 hts (gd_L gL_X12_stateOf) rfl rfl rfl (by decide +kernel) ⟨Nat.le_of_ble_eq_true rfl, Nat.le_of_ble_eq_true rfl⟩) hK hW (mW_0 _ _ _ _ _) rfl rfl hl.1 rfl (Nat.le_of_ble_eq_true rfl) dL_law_1646 hrm.2.2.2 (fun v_ f_ H locs hp hW => ?_)
  obtain ⟨hpv, J2, aM2, qM2, hpe⟩ := hp
  rw [hpe] at hW
  subst hpv
  refine lv_istore (lv' := [(6, .int (iI (pStat S a1).2.1)), (5, .int (iI (pStat S a1).1)), (0, .ref b), (1, .ref (ad 0)), (2, .ref (ix 100)), (3, .ref o), (4, .int (iI (11 * (n : Int))))]) hx hb dL_law_1649 hl (by decide) rfl (fun ls hl => ?_)
  refine lv_aload_n hx hb dL_law_1651 rfl (lv_at hl 4 rfl) ?_
  refine g_callV (i := 0) (As := []) (rest := []) K c_M_thrown (cwV 0 hts (gd_L gL_X12_thrown) rfl rfl rfl (by decide +kernel) ⟨Nat.le_of_ble_eq_true rfl, Nat.le_of_ble_eq_true rfl⟩) hK hW (mW_0 _ _ _ _ _) rfl rfl hl.1 rfl (Nat.le_of_ble_eq_true rfl) dL_law_1652 hrm.2.2.2 (fun v_ f_ H locs hp hW => ?_)
  obtain ⟨hpv, hpe⟩ := hp
  rw [hpe] at hW
  subst hpv
  refine lv_iload hx hb dL_law_1655 (lv_at hl 1 rfl) ?_
  refine lv_icmp_eq (tgt := 1662) hx hb dL_law_1657 (by decide) (fun _ => ?_) (fun h => absurd rfl h)
  refine lv_iload hx hb dL_law_1662 (lv_at hl 1 rfl) ?_
  refine lv_if_ne (tgt := 1679) hx hb dL_law_1664 (by decide) (fun _ => ?_) (fun h => ?_)
  · skip
    refine lv_goto (tgt := 1966) hx hb dL_law_1679 (by decide) ?_
    exact kk (pStat S a1).2.2 _ _ _ hJ ⟨ad2, bk2, I2, c2, q2, J2, aM2, qM2, (pStat S a1).1, v2, had0, hPn, hEn, toX hwf2 hW, lv_sub hl [2, 3, 4, 5, 6] rfl⟩
  · have hc : (pStat S a1).1 = 0 := iI_z (sGo_r _ _ _) h
    refine lv_aload_n hx hb dL_law_1667 rfl (lv_at hl 5 rfl) ?_
    refine xi_iconst hx hb dL_law_1668 ?_
    refine g_lald hx hb hK hW 300000 (n := 1) (g := v2) rfl (j := iI 0) (iI_in (by decide) (by decide) (by decide)) dL_law_1669 ?_
    rw [nat_0, hval hc]
    refine lv_iload hx hb dL_law_1670 (lv_at hl 0 rfl) ?_
    refine lv_i2l hx hb dL_law_1672 rfl ?_
    refine xi_lcmp_eq (tgt := 1679) hx hb dL_law_1673 dL_law_1674 (by decide) (fun _ => ?_) (fun h => absurd rfl h)
    refine lv_goto (tgt := 1966) hx hb dL_law_1679 (by decide) ?_
    exact kk (pStat S a1).2.2 _ _ _ hJ ⟨ad2, bk2, I2, c2, q2, J2, aM2, qM2, (pStat S a1).1, v2, had0, hPn, hEn, toX hwf2 hW, lv_sub hl [2, 3, 4, 5, 6] rfl⟩
set_option maxHeartbeats 4000000 in
set_option maxRecDepth 100000 in
theorem lc_queueAt {p : Program} {l : Launch} {e : Env} {s : State} {m : MethodId} {below : List Frame} {meth : Method} {c : Code} {H : Heap} {locs : List Loc} {ls : Array Slot} {D : va_G} {cy : Nat → ClassId} {B0 b L : Nat} {xs : Nat → Int32} {ix : Nat → Nat} {o x0 : Nat} {Q : State → Prop} {n : Nat} {S : ST} (C0 : lwC p l s m c D cy B0 b L xs) (hn : 11 * (n : Int) + 11 ≤ L) (hI : cI n S) (hw : lwI D cy B0 s ix o b x0 (11 * n) S H locs ls) (kk : lcK p l e s m below meth c D cy B0 b ix o x0 Q n S) : W p l e room_1 s m #[Value.ref b] below meth c H locs (lcC n S) (lcS n S) Q (F0 m 1682 ls []) := by
  obtain ⟨K, hK, hB, hX, hbl, hL, hst⟩ := C0
  obtain ⟨hx, hb, hml, hown, hts⟩ := id K
  obtain ⟨ad, bk, I, cX, qX, J, aM, qM, tM, v0, rfl, hP0, hE0, hW, hl⟩ := hw
  have hn5 : n < 512 := by omega
  have ho := hI.1.1
  have hwf := ho.1
  have he : S.1 31 0 + cNF S < 19900 := by have := hI.2.2.2.1; omega
  have h26 : S.1 26 0 < 100000 := by have := hI.2.2.2.2.1; omega
  have hlg := inv_lg4 hI.1.2.1 hI.1.2.2.1 hI.2.1
  have hs8 : S.1 8 0 < 60 → S.1 18 (S.1 8 0) ≠ 4 := fun h => by rw [(hI.1.2.2.2.2.2.2.2.2.2.1 _ (Int.le_refl _) h).1]; decide
  obtain ⟨a1, ha1⟩ : ∃ z, (xs (11 * (n : Int) + 1).toNat).toInt = z := ⟨_, rfl⟩
  have hr1 : rI a1 := ha1 ▸ rI_32 _
  obtain ⟨a2, ha2⟩ : ∃ z, (xs (11 * (n : Int) + 2).toNat).toInt = z := ⟨_, rfl⟩
  have hr2 : rI a2 := ha2 ▸ rI_32 _
  obtain ⟨a3, ha3⟩ : ∃ z, (xs (11 * (n : Int) + 3).toNat).toInt = z := ⟨_, rfl⟩
  have hr3 : rI a3 := ha3 ▸ rI_32 _
  refine lv_aload_n hx hb dL_law_1682 rfl (lv_at hl 1 rfl) ?_
  refine lw_arg (j := 1) (k := 4) (iz := 11 * (n : Int)) hx hb hX hbl hB hW (lv_at hl 0 rfl) (lv_at hl 4 rfl) (by omega) (by decide) (by omega) hL dL_law_1683 dL_law_1684 (Or.inl ⟨dL_law_1686, rfl⟩) dL_law_1687 dL_law_1688 ha1 ?_
  refine lw_arg (j := 2) (k := 4) (iz := 11 * (n : Int)) hx hb hX hbl hB hW (lv_at hl 0 rfl) (lv_at hl 4 rfl) (by omega) (by decide) (by omega) hL dL_law_1689 dL_law_1690 (Or.inl ⟨dL_law_1692, rfl⟩) dL_law_1693 dL_law_1694 ha2 ?_
  refine lw_arg (j := 3) (k := 4) (iz := 11 * (n : Int)) hx hb hX hbl hB hW (lv_at hl 0 rfl) (lv_at hl 4 rfl) (by omega) (by decide) (by omega) hL dL_law_1695 dL_law_1696 (Or.inl ⟨dL_law_1698, rfl⟩) dL_law_1699 dL_law_1700 ha3 ?_
  refine lv_aload_n hx hb dL_law_1701 rfl (lv_at hl 3 rfl) ?_
  have hJ : cJ n S (pQue S a1 a2 a3).2.2 := cI_que hI a1 a2 a3
  have hwf2 : wf (pQue S a1 a2 a3).2.2 := hJ.1.1.1.1
  have hrm := lc_room hn5 hI hJ
  refine g_xcallSH (As := [.ref (ad 0), .int (iI a1), .int (iI a2), .int (iI a3), .ref o]) (rest := []) K (c_L_queueAt a1 a2 a3 hwf hr1 hr2 hr3 ho (legJ_W hI.1.2.1) he (lwG_n (by decide) (by decide)) (lwG_n (by decide) (by decide)) (lwG_n (by decide) (by decide)) hP0 hE0 hst lwG_o) (vx_cwSW 5 hts (gd_L gL_L_queueAt) rfl rfl rfl (by decide +kernel) ⟨Nat.le_of_ble_eq_true rfl, Nat.le_of_ble_eq_true rfl⟩) hK hW rfl hl.1 rfl (Nat.le_of_ble_eq_true rfl) dL_law_1702 hrm.1 (fun v_ f_ H locs hp hW => ?_)
  obtain ⟨hpv, ad2, bk2, I2, c2, q2, v2, had0, hPn, hEn, hval, hpe⟩ := hp
  rw [hpe, lwG_up] at hW
  subst hpv
  refine w_cs hrm.2.1 hrm.2.2.1 ?_
  refine lv_istore (lv' := [(5, .int (iI (pQue S a1 a2 a3).1)), (0, .ref b), (1, .ref (ad 0)), (2, .ref (ix 100)), (3, .ref o), (4, .int (iI (11 * (n : Int))))]) hx hb dL_law_1705 hl (by decide) rfl (fun ls hl => ?_)
  have hW := toM hwf2 hW
  refine lv_aload_n hx hb dL_law_1707 rfl (lv_at hl 3 rfl) ?_
  refine lw_arg (j := 1) (k := 4) (iz := 11 * (n : Int)) hx hb hX hbl hB hW (lv_at hl 1 rfl) (lv_at hl 5 rfl) (by omega) (by decide) (by omega) hL dL_law_1708 dL_law_1709 (Or.inl ⟨dL_law_1711, rfl⟩) dL_law_1712 dL_law_1713 ha1 ?_
  refine lw_arg (j := 2) (k := 4) (iz := 11 * (n : Int)) hx hb hX hbl hB hW (lv_at hl 1 rfl) (lv_at hl 5 rfl) (by omega) (by decide) (by omega) hL dL_law_1714 dL_law_1715 (Or.inl ⟨dL_law_1717, rfl⟩) dL_law_1718 dL_law_1719 ha2 ?_
  refine lw_arg (j := 3) (k := 4) (iz := 11 * (n : Int)) hx hb hX hbl hB hW (lv_at hl 1 rfl) (lv_at hl 5 rfl) (by omega) (by decide) (by omega) hL dL_law_1720 dL_law_1721 (Or.inl ⟨dL_law_1723, rfl⟩) dL_law_1724 dL_law_1725 ha3 ?_
  refine g_callV (i := 0) (As := [.int (iI a1), .int (iI a2), .int (iI a3)]) (rest := []) K (c_M_queueAt a1 a2 a3 hr1 hr2 hr3 ho) (cwV 3 hts (gd_L gL_X12_queueAt) rfl rfl rfl (by decide +kernel) ⟨Nat.le_of_ble_eq_true rfl, Nat.le_of_ble_eq_true rfl⟩) hK hW (mW_0 _ _ _ _ _) rfl rfl hl.1 rfl (Nat.le_of_ble_eq_true rfl) dL_law_1726 hrm.2.2.2 (fun v_ f_ H locs hp hW => ?_)
  obtain ⟨hpv, J2, aM2, qM2, hpe⟩ := hp
  rw [hpe] at hW
  subst hpv
  refine lv_istore (lv' := [(6, .int (iI (pQue S a1 a2 a3).2.1)), (5, .int (iI (pQue S a1 a2 a3).1)), (0, .ref b), (1, .ref (ad 0)), (2, .ref (ix 100)), (3, .ref o), (4, .int (iI (11 * (n : Int))))]) hx hb dL_law_1729 hl (by decide) rfl (fun ls hl => ?_)
  refine lv_aload_n hx hb dL_law_1731 rfl (lv_at hl 4 rfl) ?_
  refine g_callV (i := 0) (As := []) (rest := []) K c_M_thrown (cwV 0 hts (gd_L gL_X12_thrown) rfl rfl rfl (by decide +kernel) ⟨Nat.le_of_ble_eq_true rfl, Nat.le_of_ble_eq_true rfl⟩) hK hW (mW_0 _ _ _ _ _) rfl rfl hl.1 rfl (Nat.le_of_ble_eq_true rfl) dL_law_1732 hrm.2.2.2 (fun v_ f_ H locs hp hW => ?_)
  obtain ⟨hpv, hpe⟩ := hp
  rw [hpe] at hW
  subst hpv
  refine lv_iload hx hb dL_law_1735 (lv_at hl 1 rfl) ?_
  refine lv_icmp_eq (tgt := 1742) hx hb dL_law_1737 (by decide) (fun _ => ?_) (fun h => absurd rfl h)
  refine lv_iload hx hb dL_law_1742 (lv_at hl 1 rfl) ?_
  refine lv_if_ne (tgt := 1759) hx hb dL_law_1744 (by decide) (fun _ => ?_) (fun h => ?_)
  · skip
    refine lv_goto (tgt := 1966) hx hb dL_law_1759 (by decide) ?_
    exact kk (pQue S a1 a2 a3).2.2 _ _ _ hJ ⟨ad2, bk2, I2, c2, q2, J2, aM2, qM2, (pQue S a1 a2 a3).1, v2, had0, hPn, hEn, toX hwf2 hW, lv_sub hl [2, 3, 4, 5, 6] rfl⟩
  · have hc : (pQue S a1 a2 a3).1 = 0 := iI_z (sGo_r _ _ _) h
    refine lv_aload_n hx hb dL_law_1747 rfl (lv_at hl 5 rfl) ?_
    refine xi_iconst hx hb dL_law_1748 ?_
    refine g_lald hx hb hK hW 300000 (n := 1) (g := v2) rfl (j := iI 0) (iI_in (by decide) (by decide) (by decide)) dL_law_1749 ?_
    rw [nat_0, hval hc]
    refine lv_iload hx hb dL_law_1750 (lv_at hl 0 rfl) ?_
    refine lv_i2l hx hb dL_law_1752 rfl ?_
    refine xi_lcmp_eq (tgt := 1759) hx hb dL_law_1753 dL_law_1754 (by decide) (fun _ => ?_) (fun h => absurd rfl h)
    refine lv_goto (tgt := 1966) hx hb dL_law_1759 (by decide) ?_
    exact kk (pQue S a1 a2 a3).2.2 _ _ _ hJ ⟨ad2, bk2, I2, c2, q2, J2, aM2, qM2, (pQue S a1 a2 a3).1, v2, had0, hPn, hEn, toX hwf2 hW, lv_sub hl [2, 3, 4, 5, 6] rfl⟩
set_option maxHeartbeats 4000000 in
set_option maxRecDepth 100000 in
theorem lc_entries {p : Program} {l : Launch} {e : Env} {s : State} {m : MethodId} {below : List Frame} {meth : Method} {c : Code} {H : Heap} {locs : List Loc} {ls : Array Slot} {D : va_G} {cy : Nat → ClassId} {B0 b L : Nat} {xs : Nat → Int32} {ix : Nat → Nat} {o x0 : Nat} {Q : State → Prop} {n : Nat} {S : ST} (C0 : lwC p l s m c D cy B0 b L xs) (hn : 11 * (n : Int) + 11 ≤ L) (hI : cI n S) (hw : lwI D cy B0 s ix o b x0 (11 * n) S H locs ls) (kk : lcK p l e s m below meth c D cy B0 b ix o x0 Q n S) : W p l e room_1 s m #[Value.ref b] below meth c H locs (lcC n S) (lcS n S) Q (F0 m 1762 ls []) := by
  obtain ⟨K, hK, hB, hX, hbl, hL, hst⟩ := C0
  obtain ⟨hx, hb, hml, hown, hts⟩ := id K
  obtain ⟨ad, bk, I, cX, qX, J, aM, qM, tM, v0, rfl, hP0, hE0, hW, hl⟩ := hw
  have hn5 : n < 512 := by omega
  have ho := hI.1.1
  have hwf := ho.1
  have he : S.1 31 0 + cNF S < 19900 := by have := hI.2.2.2.1; omega
  have h26 : S.1 26 0 < 100000 := by have := hI.2.2.2.2.1; omega
  have hlg := inv_lg4 hI.1.2.1 hI.1.2.2.1 hI.2.1
  have hs8 : S.1 8 0 < 60 → S.1 18 (S.1 8 0) ≠ 4 := fun h => by rw [(hI.1.2.2.2.2.2.2.2.2.2.1 _ (Int.le_refl _) h).1]; decide
  refine lv_aload_n hx hb dL_law_1762 rfl (lv_at hl 1 rfl) ?_
  have hrm := lc_up (S := S) hn5 hI
  refine g_callV (i := 100000 + 0) (As := []) (rest := []) K (c_X11_entries hwf) (cwV 0 hts (gd_L gL_X11_entries) rfl rfl rfl (by decide +kernel) ⟨Nat.le_of_ble_eq_true rfl, Nat.le_of_ble_eq_true rfl⟩) hK hW (kW_at rfl) rfl rfl hl.1 rfl (Nat.le_of_ble_eq_true rfl) dL_law_1763 hrm.1 (fun v_ f_ H locs hp hW => ?_)
  obtain ⟨hpv, hpe⟩ := hp
  rw [hpe] at hW
  subst hpv
  have hW := toM hwf hW
  refine lv_aload_n hx hb dL_law_1766 rfl (lv_at hl 2 rfl) ?_
  refine g_callV (i := 0) (As := []) (rest := [.int (iI (S.1 31 0))]) K (c_M_entries hwf) (cwV 0 hts (gd_L gL_X12_entries) rfl rfl rfl (by decide +kernel) ⟨Nat.le_of_ble_eq_true rfl, Nat.le_of_ble_eq_true rfl⟩) hK hW (mW_0 _ _ _ _ _) rfl rfl hl.1 rfl (Nat.le_of_ble_eq_true rfl) dL_law_1767 hrm.1 (fun v_ f_ H locs hp hW => ?_)
  obtain ⟨hpv, hpe⟩ := hp
  rw [hpe] at hW
  subst hpv
  refine lv_icmp_eq (tgt := 1966) hx hb dL_law_1770 (by decide) (fun _ => ?_) (fun h => absurd rfl h)
  exact W.widen hrm.2.1 hrm.2.2 (kk S _ _ _ (cI_up hI) ⟨ad, bk, I, cX, qX, J, aM, qM, 0, v0, rfl, hP0, hE0, toX hwf hW, hl⟩)
set_option maxHeartbeats 4000000 in
set_option maxRecDepth 100000 in
theorem lc_entryAt {p : Program} {l : Launch} {e : Env} {s : State} {m : MethodId} {below : List Frame} {meth : Method} {c : Code} {H : Heap} {locs : List Loc} {ls : Array Slot} {D : va_G} {cy : Nat → ClassId} {B0 b L : Nat} {xs : Nat → Int32} {ix : Nat → Nat} {o x0 : Nat} {Q : State → Prop} {n : Nat} {S : ST} (C0 : lwC p l s m c D cy B0 b L xs) (hn : 11 * (n : Int) + 11 ≤ L) (hI : cI n S) (hw : lwI D cy B0 s ix o b x0 (11 * n) S H locs ls) (kk : lcK p l e s m below meth c D cy B0 b ix o x0 Q n S) : W p l e room_1 s m #[Value.ref b] below meth c H locs (lcC n S) (lcS n S) Q (F0 m 1775 ls []) := by
  obtain ⟨K, hK, hB, hX, hbl, hL, hst⟩ := C0
  obtain ⟨hx, hb, hml, hown, hts⟩ := id K
  obtain ⟨ad, bk, I, cX, qX, J, aM, qM, tM, v0, rfl, hP0, hE0, hW, hl⟩ := hw
  have hn5 : n < 512 := by omega
  have ho := hI.1.1
  have hwf := ho.1
  have he : S.1 31 0 + cNF S < 19900 := by have := hI.2.2.2.1; omega
  have h26 : S.1 26 0 < 100000 := by have := hI.2.2.2.2.1; omega
  have hlg := inv_lg4 hI.1.2.1 hI.1.2.2.1 hI.2.1
  have hs8 : S.1 8 0 < 60 → S.1 18 (S.1 8 0) ≠ 4 := fun h => by rw [(hI.1.2.2.2.2.2.2.2.2.2.1 _ (Int.le_refl _) h).1]; decide
  obtain ⟨a1, ha1⟩ : ∃ z, (xs (11 * (n : Int) + 1).toNat).toInt = z := ⟨_, rfl⟩
  have hr1 : rI a1 := ha1 ▸ rI_32 _
  obtain ⟨a2, ha2⟩ : ∃ z, (xs (11 * (n : Int) + 2).toNat).toInt = z := ⟨_, rfl⟩
  have hr2 : rI a2 := ha2 ▸ rI_32 _
  refine lv_aload_n hx hb dL_law_1775 rfl (lv_at hl 1 rfl) ?_
  refine lw_arg (j := 1) (k := 4) (iz := 11 * (n : Int)) hx hb hX hbl hB hW (lv_at hl 0 rfl) (lv_at hl 4 rfl) (by omega) (by decide) (by omega) hL dL_law_1776 dL_law_1777 (Or.inl ⟨dL_law_1779, rfl⟩) dL_law_1780 dL_law_1781 ha1 ?_
  refine lw_arg (j := 2) (k := 4) (iz := 11 * (n : Int)) hx hb hX hbl hB hW (lv_at hl 0 rfl) (lv_at hl 4 rfl) (by omega) (by decide) (by omega) hL dL_law_1782 dL_law_1783 (Or.inl ⟨dL_law_1785, rfl⟩) dL_law_1786 dL_law_1787 ha2 ?_
  refine lv_aload_n hx hb dL_law_1788 rfl (lv_at hl 3 rfl) ?_
  have hJ : cJ n S (pEnt S a1 a2).2.2 := cI_ent hI a1 a2
  have hwf2 : wf (pEnt S a1 a2).2.2 := hJ.1.1.1.1
  have hrm := lc_room hn5 hI hJ
  refine g_xcallSH (As := [.ref (ad 0), .int (iI a1), .int (iI a2), .ref o]) (rest := []) K (c_L_entryAt a1 a2 hwf hr1 hr2 ho (legJ_W hI.1.2.1) he (lwG_n (by decide) (by decide)) (lwG_n (by decide) (by decide)) (lwG_n (by decide) (by decide)) hP0 hE0 hI.1.2.2.2.1 hst lwG_o) (vx_cwSW 4 hts (gd_L gL_L_entryAt) rfl rfl rfl (by decide +kernel) ⟨Nat.le_of_ble_eq_true rfl, Nat.le_of_ble_eq_true rfl⟩) hK hW rfl hl.1 rfl (Nat.le_of_ble_eq_true rfl) dL_law_1789 hrm.1 (fun v_ f_ H locs hp hW => ?_)
  obtain ⟨hpv, ad2, bk2, I2, c2, q2, v2, had0, hPn, hEn, hval, hpe⟩ := hp
  rw [hpe, lwG_up] at hW
  subst hpv
  refine w_cs hrm.2.1 hrm.2.2.1 ?_
  refine lv_istore (lv' := [(5, .int (iI (pEnt S a1 a2).1)), (0, .ref b), (1, .ref (ad 0)), (2, .ref (ix 100)), (3, .ref o), (4, .int (iI (11 * (n : Int))))]) hx hb dL_law_1792 hl (by decide) rfl (fun ls hl => ?_)
  have hW := toM hwf2 hW
  refine lv_aload_n hx hb dL_law_1794 rfl (lv_at hl 3 rfl) ?_
  refine lw_arg (j := 1) (k := 4) (iz := 11 * (n : Int)) hx hb hX hbl hB hW (lv_at hl 1 rfl) (lv_at hl 5 rfl) (by omega) (by decide) (by omega) hL dL_law_1795 dL_law_1796 (Or.inl ⟨dL_law_1798, rfl⟩) dL_law_1799 dL_law_1800 ha1 ?_
  refine lw_arg (j := 2) (k := 4) (iz := 11 * (n : Int)) hx hb hX hbl hB hW (lv_at hl 1 rfl) (lv_at hl 5 rfl) (by omega) (by decide) (by omega) hL dL_law_1801 dL_law_1802 (Or.inl ⟨dL_law_1804, rfl⟩) dL_law_1805 dL_law_1806 ha2 ?_
  refine g_callV (i := 0) (As := [.int (iI a1), .int (iI a2)]) (rest := []) K (c_M_entryAt a1 a2 hr1 hr2 ho) (cwV 2 hts (gd_L gL_X12_entryAt) rfl rfl rfl (by decide +kernel) ⟨Nat.le_of_ble_eq_true rfl, Nat.le_of_ble_eq_true rfl⟩) hK hW (mW_0 _ _ _ _ _) rfl rfl hl.1 rfl (Nat.le_of_ble_eq_true rfl) dL_law_1807 hrm.2.2.2 (fun v_ f_ H locs hp hW => ?_)
  obtain ⟨hpv, J2, aM2, qM2, hpe⟩ := hp
  rw [hpe] at hW
  subst hpv
  refine lv_lstore (lv' := [(6, .long (pEnt S a1 a2).2.1), (5, .int (iI (pEnt S a1 a2).1)), (0, .ref b), (1, .ref (ad 0)), (2, .ref (ix 100)), (3, .ref o), (4, .int (iI (11 * (n : Int))))]) hx hb dL_law_1810 hl (by decide) rfl (fun ls hl => ?_)
  refine lv_aload_n hx hb dL_law_1812 rfl (lv_at hl 4 rfl) ?_
  refine g_callV (i := 0) (As := []) (rest := []) K c_M_thrown (cwV 0 hts (gd_L gL_X12_thrown) rfl rfl rfl (by decide +kernel) ⟨Nat.le_of_ble_eq_true rfl, Nat.le_of_ble_eq_true rfl⟩) hK hW (mW_0 _ _ _ _ _) rfl rfl hl.1 rfl (Nat.le_of_ble_eq_true rfl) dL_law_1813 hrm.2.2.2 (fun v_ f_ H locs hp hW => ?_)
  obtain ⟨hpv, hpe⟩ := hp
  rw [hpe] at hW
  subst hpv
  refine lv_iload hx hb dL_law_1816 (lv_at hl 1 rfl) ?_
  refine lv_icmp_eq (tgt := 1823) hx hb dL_law_1818 (by decide) (fun _ => ?_) (fun h => absurd rfl h)
  refine lv_iload hx hb dL_law_1823 (lv_at hl 1 rfl) ?_
  refine lv_if_ne (tgt := 1839) hx hb dL_law_1825 (by decide) (fun _ => ?_) (fun h => ?_)
  · skip
    refine lv_goto (tgt := 1966) hx hb dL_law_1839 (by decide) ?_
    exact kk (pEnt S a1 a2).2.2 _ _ _ hJ ⟨ad2, bk2, I2, c2, q2, J2, aM2, qM2, (pEnt S a1 a2).1, v2, had0, hPn, hEn, toX hwf2 hW, lv_sub hl [2, 3, 4, 5, 6] rfl⟩
  · have hc : (pEnt S a1 a2).1 = 0 := iI_z (sGo_r _ _ _) h
    refine lv_aload_n hx hb dL_law_1828 rfl (lv_at hl 5 rfl) ?_
    refine xi_iconst hx hb dL_law_1829 ?_
    refine g_lald hx hb hK hW 300000 (n := 1) (g := v2) rfl (j := iI 0) (iI_in (by decide) (by decide) (by decide)) dL_law_1830 ?_
    rw [nat_0, hval hc]
    refine lv_lload hx hb dL_law_1831 (lv_at hl 0 rfl) ?_
    refine xi_lcmp_eq (tgt := 1839) hx hb dL_law_1833 dL_law_1834 (by decide) (fun _ => ?_) (fun h => absurd rfl h)
    refine lv_goto (tgt := 1966) hx hb dL_law_1839 (by decide) ?_
    exact kk (pEnt S a1 a2).2.2 _ _ _ hJ ⟨ad2, bk2, I2, c2, q2, J2, aM2, qM2, (pEnt S a1 a2).1, v2, had0, hPn, hEn, toX hwf2 hW, lv_sub hl [2, 3, 4, 5, 6] rfl⟩
set_option maxHeartbeats 4000000 in
set_option maxRecDepth 100000 in
theorem lc_advice {p : Program} {l : Launch} {e : Env} {s : State} {m : MethodId} {below : List Frame} {meth : Method} {c : Code} {H : Heap} {locs : List Loc} {ls : Array Slot} {D : va_G} {cy : Nat → ClassId} {B0 b L : Nat} {xs : Nat → Int32} {ix : Nat → Nat} {o x0 : Nat} {Q : State → Prop} {n : Nat} {S : ST} (C0 : lwC p l s m c D cy B0 b L xs) (hn : 11 * (n : Int) + 11 ≤ L) (hI : cI n S) (hw : lwI D cy B0 s ix o b x0 (11 * n) S H locs ls) (kk : lcK p l e s m below meth c D cy B0 b ix o x0 Q n S) : W p l e room_1 s m #[Value.ref b] below meth c H locs (lcC n S) (lcS n S) Q (F0 m 1842 ls []) := by
  obtain ⟨K, hK, hB, hX, hbl, hL, hst⟩ := C0
  obtain ⟨hx, hb, hml, hown, hts⟩ := id K
  obtain ⟨ad, bk, I, cX, qX, J, aM, qM, tM, v0, rfl, hP0, hE0, hW, hl⟩ := hw
  have hn5 : n < 512 := by omega
  have ho := hI.1.1
  have hwf := ho.1
  have he : S.1 31 0 + cNF S < 19900 := by have := hI.2.2.2.1; omega
  have h26 : S.1 26 0 < 100000 := by have := hI.2.2.2.2.1; omega
  have hlg := inv_lg4 hI.1.2.1 hI.1.2.2.1 hI.2.1
  have hs8 : S.1 8 0 < 60 → S.1 18 (S.1 8 0) ≠ 4 := fun h => by rw [(hI.1.2.2.2.2.2.2.2.2.2.1 _ (Int.le_refl _) h).1]; decide
  obtain ⟨a1, ha1⟩ : ∃ z, (xs (11 * (n : Int) + 1).toNat).toInt = z := ⟨_, rfl⟩
  have hr1 : rI a1 := ha1 ▸ rI_32 _
  refine lv_aload_n hx hb dL_law_1842 rfl (lv_at hl 1 rfl) ?_
  refine lw_arg (j := 1) (k := 4) (iz := 11 * (n : Int)) hx hb hX hbl hB hW (lv_at hl 0 rfl) (lv_at hl 4 rfl) (by omega) (by decide) (by omega) hL dL_law_1843 dL_law_1844 (Or.inl ⟨dL_law_1846, rfl⟩) dL_law_1847 dL_law_1848 ha1 ?_
  refine lv_aload_n hx hb dL_law_1849 rfl (lv_at hl 3 rfl) ?_
  have hJ : cJ n S (pAdv S a1).2.2 := cI_advice hI a1
  have hwf2 : wf (pAdv S a1).2.2 := hJ.1.1.1.1
  have hrm := lc_room hn5 hI hJ
  refine g_xcallSH (As := [.ref (ad 0), .int (iI a1), .ref o]) (rest := []) K (c_L_advice a1 hwf hr1 ho (legJ_W hI.1.2.1) he (lwG_n (by decide) (by decide)) (lwG_n (by decide) (by decide)) (lwG_n (by decide) (by decide)) hP0 hE0 hI.1.2.2.2.2.1 hI.1.2.2.2.2.2.2.1 hst lwG_o) (vx_cwSW 3 hts (gd_L gL_L_advice) rfl rfl rfl (by decide +kernel) ⟨Nat.le_of_ble_eq_true rfl, Nat.le_of_ble_eq_true rfl⟩) hK hW rfl hl.1 rfl (Nat.le_of_ble_eq_true rfl) dL_law_1850 hrm.1 (fun v_ f_ H locs hp hW => ?_)
  obtain ⟨hpv, ad2, bk2, I2, c2, q2, v2, had0, hPn, hEn, hval, hpe⟩ := hp
  rw [hpe, lwG_up] at hW
  subst hpv
  refine w_cs hrm.2.1 hrm.2.2.1 ?_
  refine lv_istore (lv' := [(5, .int (iI (pAdv S a1).1)), (0, .ref b), (1, .ref (ad 0)), (2, .ref (ix 100)), (3, .ref o), (4, .int (iI (11 * (n : Int))))]) hx hb dL_law_1853 hl (by decide) rfl (fun ls hl => ?_)
  have hW := toM hwf2 hW
  refine lv_aload_n hx hb dL_law_1855 rfl (lv_at hl 3 rfl) ?_
  refine lw_arg (j := 1) (k := 4) (iz := 11 * (n : Int)) hx hb hX hbl hB hW (lv_at hl 1 rfl) (lv_at hl 5 rfl) (by omega) (by decide) (by omega) hL dL_law_1856 dL_law_1857 (Or.inl ⟨dL_law_1859, rfl⟩) dL_law_1860 dL_law_1861 ha1 ?_
  refine g_callV (i := 0) (As := [.int (iI a1)]) (rest := []) K (c_M_advice a1 hr1 ho) (cwV 1 hts (gd_L gL_X12_advice) rfl rfl rfl (by decide +kernel) ⟨Nat.le_of_ble_eq_true rfl, Nat.le_of_ble_eq_true rfl⟩) hK hW (mW_0 _ _ _ _ _) rfl rfl hl.1 rfl (Nat.le_of_ble_eq_true rfl) dL_law_1862 hrm.2.2.2 (fun v_ f_ H locs hp hW => ?_)
  obtain ⟨hpv, J2, aM2, qM2, hpe⟩ := hp
  rw [hpe] at hW
  subst hpv
  refine lv_istore (lv' := [(6, .int (iI (pAdv S a1).2.1)), (5, .int (iI (pAdv S a1).1)), (0, .ref b), (1, .ref (ad 0)), (2, .ref (ix 100)), (3, .ref o), (4, .int (iI (11 * (n : Int))))]) hx hb dL_law_1865 hl (by decide) rfl (fun ls hl => ?_)
  refine lv_aload_n hx hb dL_law_1867 rfl (lv_at hl 4 rfl) ?_
  refine g_callV (i := 0) (As := []) (rest := []) K c_M_thrown (cwV 0 hts (gd_L gL_X12_thrown) rfl rfl rfl (by decide +kernel) ⟨Nat.le_of_ble_eq_true rfl, Nat.le_of_ble_eq_true rfl⟩) hK hW (mW_0 _ _ _ _ _) rfl rfl hl.1 rfl (Nat.le_of_ble_eq_true rfl) dL_law_1868 hrm.2.2.2 (fun v_ f_ H locs hp hW => ?_)
  obtain ⟨hpv, hpe⟩ := hp
  rw [hpe] at hW
  subst hpv
  refine lv_iload hx hb dL_law_1871 (lv_at hl 1 rfl) ?_
  refine lv_icmp_eq (tgt := 1878) hx hb dL_law_1873 (by decide) (fun _ => ?_) (fun h => absurd rfl h)
  refine lv_iload hx hb dL_law_1878 (lv_at hl 1 rfl) ?_
  refine lv_if_ne (tgt := 1895) hx hb dL_law_1880 (by decide) (fun _ => ?_) (fun h => ?_)
  · skip
    refine lv_goto (tgt := 1966) hx hb dL_law_1895 (by decide) ?_
    exact kk (pAdv S a1).2.2 _ _ _ hJ ⟨ad2, bk2, I2, c2, q2, J2, aM2, qM2, (pAdv S a1).1, v2, had0, hPn, hEn, toX hwf2 hW, lv_sub hl [2, 3, 4, 5, 6] rfl⟩
  · have hc : (pAdv S a1).1 = 0 := iI_z (sGo_r _ _ _) h
    refine lv_aload_n hx hb dL_law_1883 rfl (lv_at hl 5 rfl) ?_
    refine xi_iconst hx hb dL_law_1884 ?_
    refine g_lald hx hb hK hW 300000 (n := 1) (g := v2) rfl (j := iI 0) (iI_in (by decide) (by decide) (by decide)) dL_law_1885 ?_
    rw [nat_0, hval hc]
    refine lv_iload hx hb dL_law_1886 (lv_at hl 0 rfl) ?_
    refine lv_i2l hx hb dL_law_1888 rfl ?_
    refine xi_lcmp_eq (tgt := 1895) hx hb dL_law_1889 dL_law_1890 (by decide) (fun _ => ?_) (fun h => absurd rfl h)
    refine lv_goto (tgt := 1966) hx hb dL_law_1895 (by decide) ?_
    exact kk (pAdv S a1).2.2 _ _ _ hJ ⟨ad2, bk2, I2, c2, q2, J2, aM2, qM2, (pAdv S a1).1, v2, had0, hPn, hEn, toX hwf2 hW, lv_sub hl [2, 3, 4, 5, 6] rfl⟩
set_option maxHeartbeats 4000000 in
set_option maxRecDepth 100000 in
theorem lc_again {p : Program} {l : Launch} {e : Env} {s : State} {m : MethodId} {below : List Frame} {meth : Method} {c : Code} {H : Heap} {locs : List Loc} {ls : Array Slot} {D : va_G} {cy : Nat → ClassId} {B0 b L : Nat} {xs : Nat → Int32} {ix : Nat → Nat} {o x0 : Nat} {Q : State → Prop} {n : Nat} {S : ST} (C0 : lwC p l s m c D cy B0 b L xs) (hn : 11 * (n : Int) + 11 ≤ L) (hI : cI n S) (hw : lwI D cy B0 s ix o b x0 (11 * n) S H locs ls) (kk : lcK p l e s m below meth c D cy B0 b ix o x0 Q n S) : W p l e room_1 s m #[Value.ref b] below meth c H locs (lcC n S) (lcS n S) Q (F0 m 1898 ls []) := by
  obtain ⟨K, hK, hB, hX, hbl, hL, hst⟩ := C0
  obtain ⟨hx, hb, hml, hown, hts⟩ := id K
  obtain ⟨ad, bk, I, cX, qX, J, aM, qM, tM, v0, rfl, hP0, hE0, hW, hl⟩ := hw
  have hn5 : n < 512 := by omega
  have ho := hI.1.1
  have hwf := ho.1
  have he : S.1 31 0 + cNF S < 19900 := by have := hI.2.2.2.1; omega
  have h26 : S.1 26 0 < 100000 := by have := hI.2.2.2.2.1; omega
  have hlg := inv_lg4 hI.1.2.1 hI.1.2.2.1 hI.2.1
  have hs8 : S.1 8 0 < 60 → S.1 18 (S.1 8 0) ≠ 4 := fun h => by rw [(hI.1.2.2.2.2.2.2.2.2.2.1 _ (Int.le_refl _) h).1]; decide
  obtain ⟨a1, ha1⟩ : ∃ z, (xs (11 * (n : Int) + 1).toNat).toInt = z := ⟨_, rfl⟩
  have hr1 : rI a1 := ha1 ▸ rI_32 _
  obtain ⟨a2, ha2⟩ : ∃ z, (xs (11 * (n : Int) + 2).toNat).toInt = z := ⟨_, rfl⟩
  have hr2 : rI a2 := ha2 ▸ rI_32 _
  refine lv_aload_n hx hb dL_law_1898 rfl (lv_at hl 1 rfl) ?_
  refine lw_arg (j := 1) (k := 4) (iz := 11 * (n : Int)) hx hb hX hbl hB hW (lv_at hl 0 rfl) (lv_at hl 4 rfl) (by omega) (by decide) (by omega) hL dL_law_1899 dL_law_1900 (Or.inl ⟨dL_law_1902, rfl⟩) dL_law_1903 dL_law_1904 ha1 ?_
  refine lw_arg (j := 2) (k := 4) (iz := 11 * (n : Int)) hx hb hX hbl hB hW (lv_at hl 0 rfl) (lv_at hl 4 rfl) (by omega) (by decide) (by omega) hL dL_law_1905 dL_law_1906 (Or.inl ⟨dL_law_1908, rfl⟩) dL_law_1909 dL_law_1910 ha2 ?_
  refine lv_aload_n hx hb dL_law_1911 rfl (lv_at hl 3 rfl) ?_
  have hJ : cJ n S (pAga S a1 a2).2.2 := cI_again hI a1 a2
  have hwf2 : wf (pAga S a1 a2).2.2 := hJ.1.1.1.1
  have hrm := lc_room hn5 hI hJ
  refine g_xcallSH (As := [.ref (ad 0), .int (iI a1), .int (iI a2), .ref o]) (rest := []) K (c_L_again a1 a2 hwf hr1 hr2 ho (legJ_W hI.1.2.1) he (lwG_n (by decide) (by decide)) (lwG_n (by decide) (by decide)) (lwG_n (by decide) (by decide)) hP0 hE0 hI.1.2.2.2.2.1 hst lwG_o) (vx_cwSW 4 hts (gd_L gL_L_again) rfl rfl rfl (by decide +kernel) ⟨Nat.le_of_ble_eq_true rfl, Nat.le_of_ble_eq_true rfl⟩) hK hW rfl hl.1 rfl (Nat.le_of_ble_eq_true rfl) dL_law_1912 hrm.1 (fun v_ f_ H locs hp hW => ?_)
  obtain ⟨hpv, ad2, bk2, I2, c2, q2, v2, had0, hPn, hEn, hval, hpe⟩ := hp
  rw [hpe, lwG_up] at hW
  subst hpv
  refine w_cs hrm.2.1 hrm.2.2.1 ?_
  refine lv_istore (lv' := [(5, .int (iI (pAga S a1 a2).1)), (0, .ref b), (1, .ref (ad 0)), (2, .ref (ix 100)), (3, .ref o), (4, .int (iI (11 * (n : Int))))]) hx hb dL_law_1915 hl (by decide) rfl (fun ls hl => ?_)
  have hW := toM hwf2 hW
  refine lv_aload_n hx hb dL_law_1917 rfl (lv_at hl 3 rfl) ?_
  refine lw_arg (j := 1) (k := 4) (iz := 11 * (n : Int)) hx hb hX hbl hB hW (lv_at hl 1 rfl) (lv_at hl 5 rfl) (by omega) (by decide) (by omega) hL dL_law_1918 dL_law_1919 (Or.inl ⟨dL_law_1921, rfl⟩) dL_law_1922 dL_law_1923 ha1 ?_
  refine lw_arg (j := 2) (k := 4) (iz := 11 * (n : Int)) hx hb hX hbl hB hW (lv_at hl 1 rfl) (lv_at hl 5 rfl) (by omega) (by decide) (by omega) hL dL_law_1924 dL_law_1925 (Or.inl ⟨dL_law_1927, rfl⟩) dL_law_1928 dL_law_1929 ha2 ?_
  refine g_callV (i := 0) (As := [.int (iI a1), .int (iI a2)]) (rest := []) K (c_M_again a1 a2 hr1 hr2 ho) (cwV 2 hts (gd_L gL_X12_again) rfl rfl rfl (by decide +kernel) ⟨Nat.le_of_ble_eq_true rfl, Nat.le_of_ble_eq_true rfl⟩) hK hW (mW_0 _ _ _ _ _) rfl rfl hl.1 rfl (Nat.le_of_ble_eq_true rfl) dL_law_1930 hrm.2.2.2 (fun v_ f_ H locs hp hW => ?_)
  obtain ⟨hpv, J2, aM2, qM2, hpe⟩ := hp
  rw [hpe] at hW
  subst hpv
  refine lv_istore (lv' := [(6, .int (iI (pAga S a1 a2).2.1)), (5, .int (iI (pAga S a1 a2).1)), (0, .ref b), (1, .ref (ad 0)), (2, .ref (ix 100)), (3, .ref o), (4, .int (iI (11 * (n : Int))))]) hx hb dL_law_1933 hl (by decide) rfl (fun ls hl => ?_)
  refine lv_aload_n hx hb dL_law_1935 rfl (lv_at hl 4 rfl) ?_
  refine g_callV (i := 0) (As := []) (rest := []) K c_M_thrown (cwV 0 hts (gd_L gL_X12_thrown) rfl rfl rfl (by decide +kernel) ⟨Nat.le_of_ble_eq_true rfl, Nat.le_of_ble_eq_true rfl⟩) hK hW (mW_0 _ _ _ _ _) rfl rfl hl.1 rfl (Nat.le_of_ble_eq_true rfl) dL_law_1936 hrm.2.2.2 (fun v_ f_ H locs hp hW => ?_)
  obtain ⟨hpv, hpe⟩ := hp
  rw [hpe] at hW
  subst hpv
  refine lv_iload hx hb dL_law_1939 (lv_at hl 1 rfl) ?_
  refine lv_icmp_eq (tgt := 1946) hx hb dL_law_1941 (by decide) (fun _ => ?_) (fun h => absurd rfl h)
  refine lv_iload hx hb dL_law_1946 (lv_at hl 1 rfl) ?_
  refine lv_if_ne (tgt := 1963) hx hb dL_law_1948 (by decide) (fun _ => ?_) (fun h => ?_)
  · skip
    refine lv_goto (tgt := 1966) hx hb dL_law_1963 (by decide) ?_
    exact kk (pAga S a1 a2).2.2 _ _ _ hJ ⟨ad2, bk2, I2, c2, q2, J2, aM2, qM2, (pAga S a1 a2).1, v2, had0, hPn, hEn, toX hwf2 hW, lv_sub hl [2, 3, 4, 5, 6] rfl⟩
  · have hc : (pAga S a1 a2).1 = 0 := iI_z (sGo_r _ _ _) h
    refine lv_aload_n hx hb dL_law_1951 rfl (lv_at hl 5 rfl) ?_
    refine xi_iconst hx hb dL_law_1952 ?_
    refine g_lald hx hb hK hW 300000 (n := 1) (g := v2) rfl (j := iI 0) (iI_in (by decide) (by decide) (by decide)) dL_law_1953 ?_
    rw [nat_0, hval hc]
    refine lv_iload hx hb dL_law_1954 (lv_at hl 0 rfl) ?_
    refine lv_i2l hx hb dL_law_1956 rfl ?_
    refine xi_lcmp_eq (tgt := 1963) hx hb dL_law_1957 dL_law_1958 (by decide) (fun _ => ?_) (fun h => absurd rfl h)
    refine lv_goto (tgt := 1966) hx hb dL_law_1963 (by decide) ?_
    exact kk (pAga S a1 a2).2.2 _ _ _ hJ ⟨ad2, bk2, I2, c2, q2, J2, aM2, qM2, (pAga S a1 a2).1, v2, had0, hPn, hEn, toX hwf2 hW, lv_sub hl [2, 3, 4, 5, 6] rfl⟩
