/-- after the loop's round -/
theorem lw_tail {p : Program} {l : Launch} {e : Env} {s : State} {m : MethodId} {below : List Frame} {meth : Method} {c : Code} {D : va_G} {cy : Nat → ClassId} {B0 b L : Nat} {xs : Nat → Int32} {ix : Nat → Nat} {o x0 : Nat} {Q : State → Prop} {n : Nat} {S : ST} (C0 : lwC p l s m c D cy B0 b L xs)
    (ih : ∀ (S2 : ST) (H2 : Heap) (locs2 : List Loc) (ls2 : Array Slot), cI (n + 1) S2 → lwI D cy B0 s ix o b x0 (11 * ((n + 1 : Nat) : Int)) S2 H2 locs2 ls2 → W p l e room_1 s m #[Value.ref b] below meth c H2 locs2 (lcC (n + 1) S2) (lcS (n + 1) S2) Q (F0 m 23 ls2 [])) : lcK p l e s m below meth c D cy B0 b ix o x0 Q n S := by
  intro S2 H2 locs2 ls2 hJ hw
  obtain ⟨K, -⟩ := C0
  obtain ⟨hx, hb, hml, hown, hts⟩ := id K
  obtain ⟨ad, bk, I, cX, qX, J, aM, qM, tM, v0, h0, hP0, hE0, hW, hl⟩ := hw
  refine xi_iinc (i := 4) (n := 11) (x := 11 * (n : Int)) (k := 4) (lv' := [(4, .int (iI (11 * (n : Int) + 11))), (0, .ref b), (1, .ref x0), (2, .ref (ix 100)), (3, .ref o)]) hx hb dL_law_1966 hl rfl (by decide) rfl (fun ls hl => ?_)
  refine lv_goto (tgt := 23) hx hb dL_law_1969 (by decide) ?_
  refine ih S2 _ _ _ hJ.1 ⟨ad, bk, I, cX, qX, J, aM, qM, tM, v0, h0, hP0, hE0, hW, ?_⟩
  have e : 11 * ((n + 1 : Nat) : Int) = 11 * (n : Int) + 11 := by omega
  rw [e]
  exact lv_sub hl [1, 2, 3, 4, 0] rfl
set_option maxHeartbeats 4000000 in
set_option maxRecDepth 100000 in
theorem lw_round {p : Program} {l : Launch} {e : Env} {s : State} {m : MethodId} {below : List Frame} {meth : Method} {c : Code} {H : Heap} {locs : List Loc} {ls : Array Slot} {D : va_G} {cy : Nat → ClassId} {B0 b L : Nat} {xs : Nat → Int32} {ix : Nat → Nat} {o x0 : Nat} {Q : State → Prop} {n : Nat} {S : ST} (C0 : lwC p l s m c D cy B0 b L xs) (hn : 11 * (n : Int) + 11 ≤ L) (hI : cI n S) (hw : lwI D cy B0 s ix o b x0 (11 * n) S H locs ls) (kk : lcK p l e s m below meth c D cy B0 b ix o x0 Q n S) : W p l e room_1 s m #[Value.ref b] below meth c H locs (lcC n S) (lcS n S) Q (F0 m 33 ls []) := by
  obtain ⟨K, hK, hB, hX, hbl, hL, hst⟩ := id C0
  obtain ⟨hx, hb, hml, hown, hts⟩ := id K
  obtain ⟨ad, bk, I, cX, qX, J, aM, qM, tM, v0, h0, hP0, hE0, hW, hl⟩ := id hw
  have hn5 : n < 512 := by omega
  refine lv_aload_n hx hb dL_law_33 rfl (lv_at hl 0 rfl) ?_
  refine lv_iload hx hb dL_law_34 (lv_at hl 4 rfl) ?_
  refine va_sld (A := fun q : Nat => B0 ≤ q) hx hb hX hbl (by rw [hB]; omega) hW.2.1 (i := iI (11 * (n : Int))) (iI_in (by omega) (by omega) (by omega)) dL_law_36 ?_
  refine xi_bipush hx hb dL_law_37 (by decide) ?_
  refine lv_iand hx hb dL_law_39 ?_
  generalize (xs (iI (11 * (n : Int))).toNatClampNeg &&& iI 31) = v
  obtain ⟨z, hz⟩ : ∃ z, v.toInt = z := ⟨_, rfl⟩
  by_cases hr : 0 ≤ z ∧ z ≤ 26
  · have key : z = 0 ∨ z = 1 ∨ z = 2 ∨ z = 3 ∨ z = 4 ∨ z = 5 ∨ z = 6 ∨ z = 7 ∨ z = 8 ∨ z = 9 ∨ z = 10 ∨ z = 11 ∨ z = 12 ∨ z = 13 ∨ z = 14 ∨ z = 15 ∨ z = 16 ∨ z = 17 ∨ z = 18 ∨ z = 19 ∨ z = 20 ∨ z = 21 ∨ z = 22 ∨ z = 23 ∨ z = 24 ∨ z = 25 ∨ z = 26 := by omega
    rcases key with h | h | h | h | h | h | h | h | h | h | h | h | h | h | h | h | h | h | h | h | h | h | h | h | h | h | h
    · exact lv_tableIn (off := 124) (tgt := 164) hx hb dL_law_40 (by omega) (by omega) (by rw [hz, h]; rfl) (by decide) (lc_fund C0 hn hI hw kk)
    · exact lv_tableIn (off := 203) (tgt := 243) hx hb dL_law_40 (by omega) (by omega) (by rw [hz, h]; rfl) (by decide) (lc_line C0 hn hI hw kk)
    · exact lv_tableIn (off := 283) (tgt := 323) hx hb dL_law_40 (by omega) (by omega) (by rw [hz, h]; rfl) (by decide) (lc_limit C0 hn hI hw kk)
    · exact lv_tableIn (off := 375) (tgt := 415) hx hb dL_law_40 (by omega) (by omega) (by rw [hz, h]; rfl) (by decide) (lc_out C0 hn hI hw kk)
    · exact lv_tableIn (off := 466) (tgt := 506) hx hb dL_law_40 (by omega) (by omega) (by rw [hz, h]; rfl) (by decide) (lc_holiday C0 hn hI hw kk)
    · exact lv_tableIn (off := 569) (tgt := 609) hx hb dL_law_40 (by omega) (by omega) (by rw [hz, h]; rfl) (by decide) (lc_list C0 hn hI hw kk)
    · exact lv_tableIn (off := 653) (tgt := 693) hx hb dL_law_40 (by omega) (by omega) (by rw [hz, h]; rfl) (by decide) (lc_send C0 hn hI hw kk)
    · exact lv_tableIn (off := 859) (tgt := 899) hx hb dL_law_40 (by omega) (by omega) (by rw [hz, h]; rfl) (by decide) (lc_doubles C0 hn hI hw kk)
    · exact lv_tableIn (off := 872) (tgt := 912) hx hb dL_law_40 (by omega) (by omega) (by rw [hz, h]; rfl) (by decide) (lc_join C0 hn hI hw kk)
    · exact lv_tableIn (off := 920) (tgt := 960) hx hb dL_law_40 (by omega) (by omega) (by rw [hz, h]; rfl) (by decide) (lc_withdraw C0 hn hI hw kk)
    · exact lv_tableIn (off := 976) (tgt := 1016) hx hb dL_law_40 (by omega) (by omega) (by rw [hz, h]; rfl) (by decide) (lc_release C0 hn hI hw kk)
    · exact lv_tableIn (off := 1051) (tgt := 1091) hx hb dL_law_40 (by omega) (by omega) (by rw [hz, h]; rfl) (by decide) (lc_refuse C0 hn hI hw kk)
    · exact lv_tableIn (off := 1107) (tgt := 1147) hx hb dL_law_40 (by omega) (by omega) (by rw [hz, h]; rfl) (by decide) (lc_offset C0 hn hI hw kk)
    · exact lv_tableIn (off := 1163) (tgt := 1203) hx hb dL_law_40 (by omega) (by omega) (by rw [hz, h]; rfl) (by decide) (lc_recall C0 hn hI hw kk)
    · exact lv_tableIn (off := 1219) (tgt := 1259) hx hb dL_law_40 (by omega) (by omega) (by rw [hz, h]; rfl) (by decide) (lc_answer C0 hn hI hw kk)
    · exact lv_tableIn (off := 1303) (tgt := 1343) hx hb dL_law_40 (by omega) (by omega) (by rw [hz, h]; rfl) (by decide) (lc_endDay C0 hn hI hw kk)
    · exact lv_tableIn (off := 1347) (tgt := 1387) hx hb dL_law_40 (by omega) (by omega) (by rw [hz, h]; rfl) (by decide) (lc_today C0 hn hI hw kk)
    · exact lv_tableIn (off := 1360) (tgt := 1400) hx hb dL_law_40 (by omega) (by omega) (by rw [hz, h]; rfl) (by decide) (lc_account C0 hn hI hw kk)
    · exact lv_tableIn (off := 1427) (tgt := 1467) hx hb dL_law_40 (by omega) (by omega) (by rw [hz, h]; rfl) (by decide) (lc_accountAnew C0 hn hI hw kk)
    · exact lv_tableIn (off := 1494) (tgt := 1534) hx hb dL_law_40 (by omega) (by omega) (by rw [hz, h]; rfl) (by decide) (lc_paid C0 hn hI hw kk)
    · exact lv_tableIn (off := 1573) (tgt := 1613) hx hb dL_law_40 (by omega) (by omega) (by rw [hz, h]; rfl) (by decide) (lc_payments C0 hn hI hw kk)
    · exact lv_tableIn (off := 1586) (tgt := 1626) hx hb dL_law_40 (by omega) (by omega) (by rw [hz, h]; rfl) (by decide) (lc_stateOf C0 hn hI hw kk)
    · exact lv_tableIn (off := 1642) (tgt := 1682) hx hb dL_law_40 (by omega) (by omega) (by rw [hz, h]; rfl) (by decide) (lc_queueAt C0 hn hI hw kk)
    · exact lv_tableIn (off := 1722) (tgt := 1762) hx hb dL_law_40 (by omega) (by omega) (by rw [hz, h]; rfl) (by decide) (lc_entries C0 hn hI hw kk)
    · exact lv_tableIn (off := 1735) (tgt := 1775) hx hb dL_law_40 (by omega) (by omega) (by rw [hz, h]; rfl) (by decide) (lc_entryAt C0 hn hI hw kk)
    · exact lv_tableIn (off := 1802) (tgt := 1842) hx hb dL_law_40 (by omega) (by omega) (by rw [hz, h]; rfl) (by decide) (lc_advice C0 hn hI hw kk)
    · exact lv_tableIn (off := 1858) (tgt := 1898) hx hb dL_law_40 (by omega) (by omega) (by rw [hz, h]; rfl) (by decide) (lc_again C0 hn hI hw kk)
  · refine lv_tableOut (tgt := 1966) hx hb dL_law_40 (by omega) (by decide) ?_
    have hrm := lc_up (S := S) hn5 hI
    exact W.widen hrm.2.1 hrm.2.2 (kk S _ _ _ (cI_up hI) hw)
theorem iI_nat (L : Nat) : Int32.ofNat L = iI (L : Int) := rfl
set_option maxHeartbeats 4000000 in
set_option maxRecDepth 100000 in
theorem lw_loop {p : Program} {l : Launch} {e : Env} {s : State} {m : MethodId} {below : List Frame} {meth : Method} {c : Code} {D : va_G} {cy : Nat → ClassId} {b L : Nat} {xs : Nat → Int32} {ix : Nat → Nat} {o x0 : Nat} (C0 : lwC p l s m c D cy s.heap.size b L xs) (hr : meth.sig.returnType = ret) (hlocks : meth.locks = false) : ∀ (f n : Nat), n + f = 513 → ∀ (S : ST) (H : Heap) (locs : List Loc) (ls : Array Slot), cI n S → lwI D cy s.heap.size s ix o b x0 (11 * (n : Int)) S H locs ls → W p l e room_1 s m #[Value.ref b] below meth c H locs (lcC n S) (lcS n S) (lw_Z below #[Value.ref b] s) (F0 m 23 ls []) := by
  intro f
  induction f with
  | zero =>
    intro n hn S H locs ls hI hw
    have hL := C0.2.2.2.2.2.1
    obtain ⟨K, hK, hB, hX, hbl, _, hst⟩ := id C0
    obtain ⟨hx, hb, hml, hown, hts⟩ := id K
    obtain ⟨ad, bk, I, cX, qX, J, aM, qM, tM, v0, h0, hP0, hE0, hW, hl⟩ := id hw
    have hb2 := nE_b hI (by omega)
    have t3 := kTc_b (nE S)
    have t4 := kTs_b (nE S)
    refine lv_iload hx hb dL_law_23 (lv_at hl 4 rfl) ?_
    refine lv_aload_n hx hb dL_law_25 rfl (lv_at hl 0 rfl) ?_
    refine va_slen (A := fun q : Nat => s.heap.size ≤ q) hx hb hX hbl (Nat.not_le.mpr hbl) hW.2.1 dL_law_26 ?_
    rw [iI_nat]
    refine xi_bipush hx hb dL_law_27 (by decide) ?_
    refine xi_isub hx hb dL_law_29 ?_
    refine xi_icmp_gt (tgt := 1972) hx hb ⟨by omega, by omega⟩ ⟨by omega, by omega⟩ dL_law_30 (by decide) (fun _ => ?_) (fun h => absurd h (by omega))
    refine lv_iconst (v := 1) hx hb dL_law_1972 (by decide) ?_
    refine va_forget (fun q hq => hW.2.1.2.2 q hq) ?_
    refine W.widen (k := 601024) (n := 7293034) (by unfold lcC; omega) (by unfold lcS; omega) ?_
    exact lw_ret hx hb hr hlocks dL_law_1973
  | succ f ih =>
    intro n hn S H locs ls hI hw
    have hL := C0.2.2.2.2.2.1
    obtain ⟨K, hK, hB, hX, hbl, _, hst⟩ := id C0
    obtain ⟨hx, hb, hml, hown, hts⟩ := id K
    obtain ⟨ad, bk, I, cX, qX, J, aM, qM, tM, v0, h0, hP0, hE0, hW, hl⟩ := id hw
    have hb2 := nE_b hI (by omega)
    have t3 := kTc_b (nE S)
    have t4 := kTs_b (nE S)
    refine lv_iload hx hb dL_law_23 (lv_at hl 4 rfl) ?_
    refine lv_aload_n hx hb dL_law_25 rfl (lv_at hl 0 rfl) ?_
    refine va_slen (A := fun q : Nat => s.heap.size ≤ q) hx hb hX hbl (Nat.not_le.mpr hbl) hW.2.1 dL_law_26 ?_
    rw [iI_nat]
    refine xi_bipush hx hb dL_law_27 (by decide) ?_
    refine xi_isub hx hb dL_law_29 ?_
    refine xi_icmp_gt (tgt := 1972) hx hb ⟨by omega, by omega⟩ ⟨by omega, by omega⟩ dL_law_30 (by decide) (fun _ => ?_) (fun h => ?_)
    · refine lv_iconst (v := 1) hx hb dL_law_1972 (by decide) ?_
      refine va_forget (fun q hq => hW.2.1.2.2 q hq) ?_
      refine W.widen (k := 601024) (n := 7293034) (by unfold lcC; omega) (by unfold lcS; omega) ?_
      exact lw_ret hx hb hr hlocks dL_law_1973
    · exact lw_round C0 (by omega) hI hw (lw_tail C0 (fun S2 H2 locs2 ls2 h1 h2 => ih (n + 1) (by omega) S2 H2 locs2 ls2 h1 h2))
