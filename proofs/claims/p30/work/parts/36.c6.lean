set_option maxHeartbeats 4000000 in
set_option maxRecDepth 100000 in
theorem c_X11_accountSlot {l : Launch} {D : va_G} {cy : Nat → ClassId} {B0 : Nat} {f : gF} (b : Int) (c : Int)  : gM l yX11_accountSlot vX11_accountSlot 0 0 D cy B0 [.int (iI (b)), .int (iI (c))] (f) (fun r g_ => r = some (.int (iI (3 * b + c))) ∧ g_ = f) 0 0 := by
  refine g_start (cc := cX11_accountSlot) (maxL := 2) (ret := (some .int)) (by decide) rfl (Nat.le_of_ble_eq_true rfl) ?_
  intro p_ e_ s_ m_ be_ me_ co_ ls H locs K hr hlk hnm hK hW hl
  obtain ⟨hx, hb, hml, hown, hts⟩ := id K
  have hl : lv_has ls 2 [(0, .int (iI (b))), (1, .int (iI (c)))] := hl
  refine lv_iload_n hx hb dX11_accountSlot_0 rfl (lv_at hl 0 rfl) ?_
  refine xi_iconst hx hb dX11_accountSlot_1 ?_
  refine xi_imul hx hb dX11_accountSlot_2 ?_
  refine lv_iload_n hx hb dX11_accountSlot_3 rfl (lv_at hl 1 rfl) ?_
  refine xi_iadd hx hb dX11_accountSlot_4 ?_
  exact g_iret hx hb hr hW ⟨by rw [Int.mul_comm 3 b], rfl⟩ dX11_accountSlot_5 hlk
set_option maxHeartbeats 4000000 in
set_option maxRecDepth 100000 in
theorem c_X11_pairSlot {l : Launch} {D : va_G} {cy : Nat → ClassId} {B0 : Nat} {f : gF} (b : Int) (u : Int) (c : Int)  : gM l yX11_pairSlot vX11_pairSlot 0 0 D cy B0 [.int (iI (b)), .int (iI (u)), .int (iI (c))] (f) (fun r g_ => r = some (.int (iI (3 * (6 * b + u) + c))) ∧ g_ = f) 0 0 := by
  refine g_start (cc := cX11_pairSlot) (maxL := 3) (ret := (some .int)) (by decide) rfl (Nat.le_of_ble_eq_true rfl) ?_
  intro p_ e_ s_ m_ be_ me_ co_ ls H locs K hr hlk hnm hK hW hl
  obtain ⟨hx, hb, hml, hown, hts⟩ := id K
  have hl : lv_has ls 3 [(0, .int (iI (b))), (1, .int (iI (u))), (2, .int (iI (c)))] := hl
  refine lv_iload_n hx hb dX11_pairSlot_0 rfl (lv_at hl 0 rfl) ?_
  refine xi_bipush hx hb dX11_pairSlot_1 (by decide) ?_
  refine xi_imul hx hb dX11_pairSlot_3 ?_
  refine lv_iload_n hx hb dX11_pairSlot_4 rfl (lv_at hl 1 rfl) ?_
  refine xi_iadd hx hb dX11_pairSlot_5 ?_
  refine xi_iconst hx hb dX11_pairSlot_6 ?_
  refine xi_imul hx hb dX11_pairSlot_7 ?_
  refine lv_iload_n hx hb dX11_pairSlot_8 rfl (lv_at hl 2 rfl) ?_
  refine xi_iadd hx hb dX11_pairSlot_9 ?_
  exact g_iret hx hb hr hW ⟨by rw [Int.mul_comm 3 (6 * b + u), Int.mul_comm 6 b], rfl⟩ dX11_pairSlot_10 hlk
theorem kls {S : ST} (hw : wf S) : kcap (nP S) ≤ 100000 ∧ (0 ≤ S.1 8 0 ∧ S.1 8 0 ≤ (kcap (nP S) : Nat)) ∧ (0 < S.1 8 0 → kcap (nP S) ≠ 0) := by
  have h8 := wf_8 hw 0
  have h1 := kcap_ge (nP S)
  have h2 := kcap_le (nP S)
  unfold nP at *
  refine ⟨by omega, ⟨by omega, by omega⟩, fun h => kcap_pos (by omega)⟩
theorem lsP_at {ad : Nat → Nat} {S : ST} {z : Int} (h0 : 0 ≤ z) (h1 : z < S.1 8 0) : va_rf (lsP ad S z.toNat) = .ref (ad (1000 + 2 * z.toNat)) := by
  unfold lsP
  rw [if_pos (show z.toNat < nP S by unfold nP; omega)]
  rfl
theorem kle {S : ST} (hw : wf S) : kcap (nE S) ≤ 100000 ∧ (0 ≤ S.1 31 0 ∧ S.1 31 0 ≤ (kcap (nE S) : Nat)) ∧ (0 < S.1 31 0 → kcap (nE S) ≠ 0) := by
  have h8 := wf_31 hw 0
  have h1 := kcap_ge (nE S)
  have h2 := kcap_le (nE S)
  unfold nE at *
  refine ⟨by omega, ⟨by omega, by omega⟩, fun h => kcap_pos (by omega)⟩
theorem lsE_at {bk : Nat → Nat} {S : ST} {z : Int} (h0 : 0 ≤ z) (h1 : z < S.1 31 0) : va_rf (lsE bk S z.toNat) = .ref (bk (2000 + z.toNat)) := by
  unfold lsE
  rw [if_pos (show z.toNat < nE S by unfold nE; omega)]
  rfl
set_option maxHeartbeats 4000000 in
set_option maxRecDepth 100000 in
theorem c_X8_count {l : Launch} {D : va_G} {cy : Nat → ClassId} {B0 : Nat} {ad bk : Nat → Nat} {S : ST} {I : Int → Bool} {cX qX : Int → Int64} {G : gF}  (hwf : wf S)  : gM l yX8_count vX8_count 1 20 D cy B0 [.ref (ad 5)] (kW cy ad bk S (I, cX, qX) G) (fun r g_ => r = some (.int (iI (S.1 8 0))) ∧ g_ = kW cy ad bk S (I, cX, qX) G) 0 0 := by
  refine g_start (cc := cX8_count) (maxL := 1) (ret := (some .int)) (by decide) rfl (Nat.le_of_ble_eq_true rfl) ?_
  intro p_ e_ s_ m_ be_ me_ co_ ls H locs K hr hlk hnm hK hW hl
  obtain ⟨hx, hb, hml, hown, hts⟩ := id K
  have hl : lv_has ls 1 [(0, .ref (ad 5))] := hl
  refine lv_aload_n hx hb dX8_count_0 rfl (lv_at hl 0 rfl) ?_
  refine g_get (ref := RX8) (T := TX8) (N := 2) (ci := 9) hx hb hts wsC_X8 hown hK hW (100000 + 5) (kW_at rfl) rfl 0 (by decide) (hts _ lC_X8_12) (fun x h => h) (v := .ref (ad 9)) rfl dX8_count_1 ?_
  refine g_callV (i := 100000 + 9) (As := []) (rest := []) K (c_Jx4a65c_size_8abf5 (i := 100000 + 9) (j := 0) (n := 0) (g := fun _ => none) (kW_at rfl)) (cwV 0 hts gC_X8_33 rfl rfl rfl (by decide +kernel) ⟨Nat.le_of_ble_eq_true rfl, Nat.le_of_ble_eq_true rfl⟩) hK hW (kW_at rfl) rfl rfl hl.1 rfl (Nat.le_of_ble_eq_true rfl) dX8_count_4 ⟨Nat.le_refl _, Nat.le_refl _⟩ (fun v_ f_ H locs hp hW => ?_)
  obtain ⟨hpv, hpe⟩ := hp
  rw [hpe] at hW
  have hpv : v_ = some (.int (iI (S.1 8 (0)))) := hpv
  subst hpv
  have w_1 := wf_8 hwf 0
  exact g_iret hx hb hr hW ⟨rfl, rfl⟩ dX8_count_7 hlk
set_option maxHeartbeats 4000000 in
set_option maxRecDepth 100000 in
theorem c_X8_isFull {l : Launch} {D : va_G} {cy : Nat → ClassId} {B0 : Nat} {ad bk : Nat → Nat} {S : ST} {I : Int → Bool} {cX qX : Int → Int64} {G : gF}  (hwf : wf S)  : gM l yX8_isFull vX8_isFull 1 20 D cy B0 [.ref (ad 5)] (kW cy ad bk S (I, cX, qX) G) (fun r g_ => r = some (.int (iI (bI (decide (60 ≤ S.1 8 0))))) ∧ g_ = kW cy ad bk S (I, cX, qX) G) 0 0 := by
  refine g_start (cc := cX8_isFull) (maxL := 1) (ret := (some .boolean)) (by decide) rfl (Nat.le_of_ble_eq_true rfl) ?_
  intro p_ e_ s_ m_ be_ me_ co_ ls H locs K hr hlk hnm hK hW hl
  obtain ⟨hx, hb, hml, hown, hts⟩ := id K
  have hl : lv_has ls 1 [(0, .ref (ad 5))] := hl
  refine lv_aload_n hx hb dX8_isFull_0 rfl (lv_at hl 0 rfl) ?_
  refine g_get (ref := RX8) (T := TX8) (N := 2) (ci := 9) hx hb hts wsC_X8 hown hK hW (100000 + 5) (kW_at rfl) rfl 0 (by decide) (hts _ lC_X8_12) (fun x h => h) (v := .ref (ad 9)) rfl dX8_isFull_1 ?_
  refine g_callV (i := 100000 + 9) (As := []) (rest := []) K (c_Jx4a65c_size_8abf5 (i := 100000 + 9) (j := 0) (n := 0) (g := fun _ => none) (kW_at rfl)) (cwV 0 hts gC_X8_33 rfl rfl rfl (by decide +kernel) ⟨Nat.le_of_ble_eq_true rfl, Nat.le_of_ble_eq_true rfl⟩) hK hW (kW_at rfl) rfl rfl hl.1 rfl (Nat.le_of_ble_eq_true rfl) dX8_isFull_4 ⟨Nat.le_refl _, Nat.le_refl _⟩ (fun v_ f_ H locs hp hW => ?_)
  obtain ⟨hpv, hpe⟩ := hp
  rw [hpe] at hW
  have hpv : v_ = some (.int (iI (S.1 8 (0)))) := hpv
  subst hpv
  have w_1 := wf_8 hwf 0
  refine xi_bipush hx hb dX8_isFull_7 (by decide) ?_
  refine xi_icmp_lt (tgt := 16) hx hb ⟨by omega, by omega⟩ ⟨by omega, by omega⟩ dX8_isFull_9 (by decide) (fun c_2 => ?_) (fun c_2 => ?_)
  · refine xi_iconst hx hb dX8_isFull_16 ?_
    exact g_zret hx hb hr (Or.inl rfl) hW ⟨congrArg (fun z => some (Value.int (iI z))) (bI_f (by simp only [Bool.and_eq_true, Bool.or_eq_true, Bool.and_eq_false_iff, Bool.or_eq_false_iff, decide_eq_true_eq, decide_eq_false_iff_not, Bool.not_eq_true, Bool.not_eq_false]; omega)), rfl⟩ dX8_isFull_17 hlk
  · refine xi_iconst hx hb dX8_isFull_12 ?_
    refine lv_goto (tgt := 17) hx hb dX8_isFull_13 (by decide) ?_
    exact g_zret hx hb hr (Or.inr rfl) hW ⟨congrArg (fun z => some (Value.int (iI z))) (bI_t (by simp only [Bool.and_eq_true, Bool.or_eq_true, Bool.and_eq_false_iff, Bool.or_eq_false_iff, decide_eq_true_eq, decide_eq_false_iff_not, Bool.not_eq_true, Bool.not_eq_false]; omega)), rfl⟩ dX8_isFull_17 hlk
def kFind (S : ST) (z : Int) : Int := if 0 ≤ z ∧ z < S.1 8 0 then z else -1
set_option maxHeartbeats 4000000 in
set_option maxRecDepth 100000 in
theorem c_X8_find {l : Launch} {D : va_G} {cy : Nat → ClassId} {B0 : Nat} {ad bk : Nat → Nat} {S : ST} {I : Int → Bool} {cX qX : Int → Int64} {G : gF} (z : Int) (hwf : wf S) (hz : rI z) : gM l yX8_find vX8_find 4 88 D cy B0 [.ref (ad 5), .int (iI (z))] (kW cy ad bk S (I, cX, qX) G) (fun r g_ => r = some (pR ad (kFind S z)) ∧ g_ = kW cy ad bk S (I, cX, qX) G) 0 0 := by
  refine g_start (cc := cX8_find) (maxL := 2) (ret := (some (.object "MillstreamPayments$Payment"))) (by decide) rfl (Nat.le_of_ble_eq_true rfl) ?_
  intro p_ e_ s_ m_ be_ me_ co_ ls H locs K hr hlk hnm hK hW hl
  obtain ⟨hx, hb, hml, hown, hts⟩ := id K
  have hl : lv_has ls 2 [(0, .ref (ad 5)), (1, .int (iI (z)))] := hl
  refine lv_iload_n hx hb dX8_find_0 rfl (lv_at hl 1 rfl) ?_
  refine xi_if_lt (tgt := 29) hx hb ⟨by omega, by omega⟩ dX8_find_1 (by decide) (fun c_1 => ?_) (fun c_1 => ?_)
  · refine lv_null hx hb dX8_find_29 ?_
    exact g_aret hx hb hr (Or.inl rfl) hW ⟨by rw [kFind, if_neg (by omega)]; rfl, rfl⟩ dX8_find_30 hlk
  · refine lv_iload_n hx hb dX8_find_4 rfl (lv_at hl 1 rfl) ?_
    refine lv_aload_n hx hb dX8_find_5 rfl (lv_at hl 0 rfl) ?_
    refine g_get (ref := RX8) (T := TX8) (N := 2) (ci := 9) hx hb hts wsC_X8 hown hK hW (100000 + 5) (kW_at rfl) rfl 0 (by decide) (hts _ lC_X8_12) (fun x h => h) (v := .ref (ad 9)) rfl dX8_find_6 ?_
    refine g_callV (i := 100000 + 9) (As := []) (rest := [.int (iI (z))]) K (c_Jx4a65c_size_8abf5 (i := 100000 + 9) (j := 0) (n := 0) (g := fun _ => none) (kW_at rfl)) (cwV 0 hts gC_X8_33 rfl rfl rfl (by decide +kernel) ⟨Nat.le_of_ble_eq_true rfl, Nat.le_of_ble_eq_true rfl⟩) hK hW (kW_at rfl) rfl rfl hl.1 rfl (Nat.le_of_ble_eq_true rfl) dX8_find_9 ⟨Nat.le_refl _, Nat.le_refl _⟩ (fun v_ f_ H locs hp hW => ?_)
    obtain ⟨hpv, hpe⟩ := hp
    rw [hpe] at hW
    have hpv : v_ = some (.int (iI (S.1 8 (0)))) := hpv
    subst hpv
    have w_2 := wf_8 hwf 0
    refine xi_icmp_ge (tgt := 29) hx hb ⟨by omega, by omega⟩ ⟨by omega, by omega⟩ dX8_find_12 (by decide) (fun c_3 => ?_) (fun c_3 => ?_)
    · refine lv_null hx hb dX8_find_29 ?_
      exact g_aret hx hb hr (Or.inl rfl) hW ⟨by rw [kFind, if_neg (by omega)]; rfl, rfl⟩ dX8_find_30 hlk
    · refine lv_aload_n hx hb dX8_find_15 rfl (lv_at hl 0 rfl) ?_
      refine g_get (ref := RX8) (T := TX8) (N := 2) (ci := 9) hx hb hts wsC_X8 hown hK hW (100000 + 5) (kW_at rfl) rfl 0 (by decide) (hts _ lC_X8_12) (fun x h => h) (v := .ref (ad 9)) rfl dX8_find_16 ?_
      refine lv_iload_n hx hb dX8_find_19 rfl (lv_at hl 1 rfl) ?_
      refine g_callV (i := 100000 + 9) (As := [.int (iI (z))]) (rest := []) K (c_Jx4a65c_get_915e3 (i := 100000 + 9) (j := 100000 + 11) (z) (kW_at rfl) (kW_at (kC_l11 ((kls hwf).2.2 (show 0 < S.1 8 0 by omega)))) (kls hwf).1 (kls hwf).2.1 (show 0 ≤ (z) ∧ (z) < S.1 8 0 from ⟨by omega, by omega⟩)) (cwV 1 hts gC_X8_37 rfl rfl rfl (by decide +kernel) ⟨Nat.le_of_ble_eq_true rfl, Nat.le_of_ble_eq_true rfl⟩) hK hW (kW_at rfl) rfl rfl hl.1 rfl (Nat.le_of_ble_eq_true rfl) dX8_find_20 ⟨Nat.le_refl _, Nat.le_refl _⟩ (fun v_ f_ H locs hp hW => ?_)
      obtain ⟨hpv, hpe⟩ := hp
      rw [hpe] at hW
      have hpv : v_ = some (.ref (ad (1000 + 2 * (z).toNat))) := hpv.trans (congrArg some (lsP_at (S := S) (by omega) (show (z) < S.1 8 0 by omega)))
      subst hpv
      refine va_castS hx hb hown (hts _ hC_X8_41) (hK.1.1 8 _ rfl).2 (va_recv (q0 := 0) hK.1 (hW.1.one (kW_at (kC_pay hwf (by omega) (show (z) < S.1 8 0 from by omega)))) rfl rfl) dX8_find_23 ?_
      refine lv_goto (tgt := 30) hx hb dX8_find_26 (by decide) ?_
      exact g_aret hx hb hr (Or.inr ⟨_, rfl⟩) hW ⟨by rw [kFind, if_pos (by omega), pR_r _ (by omega)], rfl⟩ dX8_find_30 hlk
set_option maxHeartbeats 4000000 in
set_option maxRecDepth 100000 in
theorem c_X8_toldBy {l : Launch} {D : va_G} {cy : Nat → ClassId} {B0 : Nat} {ad bk : Nat → Nat} {S : ST} {I : Int → Bool} {cX qX : Int → Int64} {G : gF} (b : Int) (msg : Int) (hwf : wf S) (hb0 : 0 ≤ b ∧ b ≤ 5) (hm : 0 ≤ msg ∧ msg ≤ 99) : gM l yX8_toldBy vX8_toldBy 5 109 D cy B0 [.ref (ad 5), .int (iI (b)), .int (iI (msg))] (kW cy ad bk S (I, cX, qX) G) (fun r g_ => r = some (pR ad (kFind S (S.1 25 (100 * b + msg)))) ∧ g_ = kW cy ad bk S (I, cX, qX) G) 0 0 := by
  refine g_start (cc := cX8_toldBy) (maxL := 3) (ret := (some (.object "MillstreamPayments$Payment"))) (by decide) rfl (Nat.le_of_ble_eq_true rfl) ?_
  intro p_ e_ s_ m_ be_ me_ co_ ls H locs K hr hlk hnm hK hW hl
  obtain ⟨hx, hb, hml, hown, hts⟩ := id K
  have hl : lv_has ls 3 [(0, .ref (ad 5)), (1, .int (iI (b))), (2, .int (iI (msg)))] := hl
  refine lv_aload_n hx hb dX8_toldBy_0 rfl (lv_at hl 0 rfl) ?_
  refine lv_aload_n hx hb dX8_toldBy_1 rfl (lv_at hl 0 rfl) ?_
  refine g_get (ref := RX8) (T := TX8) (N := 2) (ci := 9) hx hb hts wsC_X8 hown hK hW (100000 + 5) (kW_at rfl) rfl 1 (by decide) (hts _ lC_X8_23) (fun x h => h) (v := .ref (ad 25)) rfl dX8_toldBy_2 ?_
  refine lv_iload_n hx hb dX8_toldBy_5 rfl (lv_at hl 1 rfl) ?_
  refine xi_bipush hx hb dX8_toldBy_6 (by decide) ?_
  refine xi_imul hx hb dX8_toldBy_8 ?_
  refine lv_iload_n hx hb dX8_toldBy_9 rfl (lv_at hl 2 rfl) ?_
  refine xi_iadd hx hb dX8_toldBy_10 ?_
  refine xi_eq (z' := 100 * b + msg) (by omega) ?_
  refine g_callV (i := 100000 + 25) (As := [.int (iI (100 * b + msg))]) (rest := [.ref (ad 5)]) K (c_X9_at (i := 100000 + 25) (j := 100000 + (40 + 5)) (100 * b + msg) (kW_at rfl) (kW_at (kC_row (r := 5) (by decide))) (by decide) (by decide) (show 0 ≤ (100 * b + msg) ∧ (100 * b + msg) < ((600 : Nat) : Int) from ⟨by omega, by omega⟩)) (cwV 1 hts gC_X8_50 rfl rfl rfl (by decide +kernel) ⟨Nat.le_of_ble_eq_true rfl, Nat.le_of_ble_eq_true rfl⟩) hK hW (kW_at rfl) rfl rfl hl.1 rfl (Nat.le_of_ble_eq_true rfl) dX8_toldBy_11 ⟨Nat.le_refl _, Nat.le_refl _⟩ (fun v_ f_ H locs hp hW => ?_)
  obtain ⟨hpv, hpe⟩ := hp
  rw [hpe] at hW
  have hpv : v_ = some (.long (Int64.ofInt (S.1 25 (100 * b + msg)))) := hpv
  subst hpv
  refine xi_l2i hx hb dX8_toldBy_14 ?_
  have h25 := wf_25 hwf (100 * b + msg)
  refine g_callV (i := 100000 + 5) (As := [.int (iI (S.1 25 (100 * b + msg)))]) (rest := []) K (c_X8_find (S.1 25 (100 * b + msg)) hwf ⟨by omega, by omega⟩) (cwV 1 hts gC_X8_54 rfl rfl rfl (by decide +kernel) ⟨Nat.le_of_ble_eq_true rfl, Nat.le_of_ble_eq_true rfl⟩) hK hW (kW_at rfl) rfl rfl hl.1 rfl (Nat.le_of_ble_eq_true rfl) dX8_toldBy_15 ⟨Nat.le_refl _, Nat.le_refl _⟩ (fun v_ f_ H locs hp hW => ?_)
  obtain ⟨hpv, hpe⟩ := hp
  rw [hpe] at hW
  subst hpv
  exact g_aret hx hb hr (pR_or _ _) hW ⟨rfl, rfl⟩ dX8_toldBy_18 hlk
set_option maxHeartbeats 4000000 in
set_option maxRecDepth 100000 in
theorem c_X8_keepMessage {l : Launch} {D : va_G} {cy : Nat → ClassId} {B0 : Nat} {ad bk : Nat → Nat} {S : ST} {I : Int → Bool} {cX qX : Int → Int64} {G : gF} (b : Int) (msg : Int) (n : Int) (hwf : wf S) (hb0 : 0 ≤ b ∧ b ≤ 5) (hm : 0 ≤ msg ∧ msg ≤ 99) (hn : rI n) : gM l yX8_keepMessage vX8_keepMessage 1 23 D cy B0 [.ref (ad 5), .int (iI (b)), .int (iI (msg)), .int (iI (n))] (kW cy ad bk S (I, cX, qX) G) (fun r g_ => r = none ∧ g_ = kW cy ad bk (pI S 25 (100 * b + msg) n) (I, cX, qX) G) 0 0 := by
  refine g_start (cc := cX8_keepMessage) (maxL := 4) (ret := none) (by decide) rfl (Nat.le_of_ble_eq_true rfl) ?_
  intro p_ e_ s_ m_ be_ me_ co_ ls H locs K hr hlk hnm hK hW hl
  obtain ⟨hx, hb, hml, hown, hts⟩ := id K
  have hl : lv_has ls 4 [(0, .ref (ad 5)), (1, .int (iI (b))), (2, .int (iI (msg))), (3, .int (iI (n)))] := hl
  refine lv_aload_n hx hb dX8_keepMessage_0 rfl (lv_at hl 0 rfl) ?_
  refine g_get (ref := RX8) (T := TX8) (N := 2) (ci := 9) hx hb hts wsC_X8 hown hK hW (100000 + 5) (kW_at rfl) rfl 1 (by decide) (hts _ lC_X8_23) (fun x h => h) (v := .ref (ad 25)) rfl dX8_keepMessage_1 ?_
  refine lv_iload_n hx hb dX8_keepMessage_4 rfl (lv_at hl 1 rfl) ?_
  refine xi_bipush hx hb dX8_keepMessage_5 (by decide) ?_
  refine xi_imul hx hb dX8_keepMessage_7 ?_
  refine lv_iload_n hx hb dX8_keepMessage_8 rfl (lv_at hl 2 rfl) ?_
  refine xi_iadd hx hb dX8_keepMessage_9 ?_
  refine xi_eq (z' := 100 * b + msg) (by omega) ?_
  refine lv_iload_n hx hb dX8_keepMessage_10 rfl (lv_at hl 3 rfl) ?_
  refine xi_i2l hx hb ⟨by omega, by omega⟩ dX8_keepMessage_11 ?_
  refine g_callV (i := 100000 + 25) (As := [.int (iI (100 * b + msg)), .long (Int64.ofInt (n))]) (rest := []) K (c_X9_put (i := 100000 + 25) (j := 100000 + (40 + 5)) (100 * b + msg) (Int64.ofInt (n)) (kW_at rfl) (kW_at (kC_row (r := 5) (by decide))) (by decide) (by decide) (show 0 ≤ (100 * b + msg) ∧ (100 * b + msg) < ((600 : Nat) : Int) from ⟨by omega, by omega⟩)) (cwV 2 hts gC_X8_58 rfl rfl rfl (by decide +kernel) ⟨Nat.le_of_ble_eq_true rfl, Nat.le_of_ble_eq_true rfl⟩) hK hW (kW_at rfl) rfl rfl hl.1 rfl (Nat.le_of_ble_eq_true rfl) dX8_keepMessage_12 ⟨Nat.le_refl _, Nat.le_refl _⟩ (fun v_ f_ H locs hp hW => ?_)
  obtain ⟨hpv, hpe⟩ := hp
  rw [hpe.trans (kW_rI (cy := cy) (ad := ad) (bk := bk) (S := S) (X := (I, cX, qX)) (G := G) 5 (by decide) (z := 100 * b + msg) (v := n) (by decide))] at hW
  subst hpv
  exact g_vret hx hb hr hW ⟨rfl, rfl⟩ dX8_keepMessage_15 hlk
set_option maxHeartbeats 4000000 in
set_option maxRecDepth 100000 in
theorem c_X0_balanceOf {l : Launch} {D : va_G} {cy : Nat → ClassId} {B0 : Nat} {ad bk : Nat → Nat} {S : ST} {I : Int → Bool} {cX qX : Int → Int64} {G : gF} (b : Int) (c : Int) (hwf : wf S) (hb0 : 0 ≤ b ∧ b ≤ 6) (hc : 0 ≤ c ∧ c ≤ 2) : gM l yX0_balanceOf vX0_balanceOf 1 21 D cy B0 [.ref (ad 3), .int (iI (b)), .int (iI (c))] (kW cy ad bk S (I, cX, qX) G) (fun r g_ => r = some (.long (S.2 1 (3 * b + c))) ∧ g_ = kW cy ad bk S (I, cX, qX) G) 0 0 := by
  refine g_start (cc := cX0_balanceOf) (maxL := 3) (ret := (some .long)) (by decide) rfl (Nat.le_of_ble_eq_true rfl) ?_
  intro p_ e_ s_ m_ be_ me_ co_ ls H locs K hr hlk hnm hK hW hl
  obtain ⟨hx, hb, hml, hown, hts⟩ := id K
  have hl : lv_has ls 3 [(0, .ref (ad 3)), (1, .int (iI (b))), (2, .int (iI (c)))] := hl
  refine lv_aload_n hx hb dX0_balanceOf_0 rfl (lv_at hl 0 rfl) ?_
  refine g_get (ref := RX0) (T := TX0) (N := 5) (ci := 1) hx hb hts wsC_X0 hown hK hW (100000 + 3) (kW_at rfl) rfl 1 (by decide) (hts _ lC_X0_23) (fun x h => h) (v := .ref (ad 21)) rfl dX0_balanceOf_1 ?_
  refine lv_iload_n hx hb dX0_balanceOf_4 rfl (lv_at hl 1 rfl) ?_
  refine lv_iload_n hx hb dX0_balanceOf_5 rfl (lv_at hl 2 rfl) ?_
  refine g_callSN (As := [.int (iI (b)), .int (iI (c))]) (rest := [.ref (ad 21)]) K (c_X11_accountSlot (b) (c)) ⟨va_cnB 2 hts gC_X11_accountSlot rfl rfl rfl (hK.2.1 _ (List.mem_of_getElem? (i := 2) rfl)) (hts _ iC_X11) (by decide +kernel) ⟨Nat.le_of_ble_eq_true rfl, Nat.le_of_ble_eq_true rfl⟩, hts _ sC_X11_accountSlot, trivial⟩ hK hW rfl hl.1 rfl (Nat.le_of_ble_eq_true rfl) dX0_balanceOf_6 ⟨Nat.le_refl _, Nat.le_refl _⟩ (fun v_ f_ H locs hp hW => ?_)
  obtain ⟨hpv, hpe⟩ := hp
  rw [hpe] at hW
  subst hpv
  refine g_callV (i := 100000 + 21) (As := [.int (iI (3 * b + c))]) (rest := []) K (c_X9_at (i := 100000 + 21) (j := 100000 + (40 + 1)) (3 * b + c) (kW_at rfl) (kW_at (kC_row (r := 1) (by decide))) (by decide) (by decide) (show 0 ≤ (3 * b + c) ∧ (3 * b + c) < ((21 : Nat) : Int) from ⟨by omega, by omega⟩)) (cwV 1 hts gC_X0_46 rfl rfl rfl (by decide +kernel) ⟨Nat.le_of_ble_eq_true rfl, Nat.le_of_ble_eq_true rfl⟩) hK hW (kW_at rfl) rfl rfl hl.1 rfl (Nat.le_of_ble_eq_true rfl) dX0_balanceOf_9 ⟨Nat.le_refl _, Nat.le_refl _⟩ (fun v_ f_ H locs hp hW => ?_)
  obtain ⟨hpv, hpe⟩ := hp
  rw [hpe] at hW
  have hpv : v_ = some (.long (S.2 1 (3 * b + c))) := hpv
  subst hpv
  exact g_lret hx hb hr hW ⟨rfl, rfl⟩ dX0_balanceOf_12 hlk
set_option maxHeartbeats 4000000 in
set_option maxRecDepth 100000 in
theorem c_X0_paidOf {l : Launch} {D : va_G} {cy : Nat → ClassId} {B0 : Nat} {ad bk : Nat → Nat} {S : ST} {I : Int → Bool} {cX qX : Int → Int64} {G : gF} (y : Int) (hwf : wf S) (hy : 0 ≤ y ∧ y < 108) : gM l yX0_paidOf vX0_paidOf 1 21 D cy B0 [.ref (ad 3), .int (iI (y))] (kW cy ad bk S (I, cX, qX) G) (fun r g_ => r = some (.long (S.2 4 y)) ∧ g_ = kW cy ad bk S (I, cX, qX) G) 0 0 := by
  refine g_start (cc := cX0_paidOf) (maxL := 2) (ret := (some .long)) (by decide) rfl (Nat.le_of_ble_eq_true rfl) ?_
  intro p_ e_ s_ m_ be_ me_ co_ ls H locs K hr hlk hnm hK hW hl
  obtain ⟨hx, hb, hml, hown, hts⟩ := id K
  have hl : lv_has ls 2 [(0, .ref (ad 3)), (1, .int (iI (y)))] := hl
  refine lv_aload_n hx hb dX0_paidOf_0 rfl (lv_at hl 0 rfl) ?_
  refine g_get (ref := RX0) (T := TX0) (N := 5) (ci := 1) hx hb hts wsC_X0 hown hK hW (100000 + 3) (kW_at rfl) rfl 3 (by decide) (hts _ lC_X0_30) (fun x h => h) (v := .ref (ad 23)) rfl dX0_paidOf_1 ?_
  refine lv_iload_n hx hb dX0_paidOf_4 rfl (lv_at hl 1 rfl) ?_
  refine g_callV (i := 100000 + 23) (As := [.int (iI (y))]) (rest := []) K (c_X9_at (i := 100000 + 23) (j := 100000 + (40 + 3)) (y) (kW_at rfl) (kW_at (kC_row (r := 3) (by decide))) (by decide) (by decide) (show 0 ≤ (y) ∧ (y) < ((108 : Nat) : Int) from ⟨by omega, by omega⟩)) (cwV 1 hts gC_X0_46 rfl rfl rfl (by decide +kernel) ⟨Nat.le_of_ble_eq_true rfl, Nat.le_of_ble_eq_true rfl⟩) hK hW (kW_at rfl) rfl rfl hl.1 rfl (Nat.le_of_ble_eq_true rfl) dX0_paidOf_5 ⟨Nat.le_refl _, Nat.le_refl _⟩ (fun v_ f_ H locs hp hW => ?_)
  obtain ⟨hpv, hpe⟩ := hp
  rw [hpe] at hW
  have hpv : v_ = some (.long (S.2 4 (y))) := hpv
  subst hpv
  exact g_lret hx hb hr hW ⟨rfl, rfl⟩ dX0_paidOf_8 hlk
set_option maxHeartbeats 4000000 in
set_option maxRecDepth 100000 in
theorem c_X0_changeLine {l : Launch} {D : va_G} {cy : Nat → ClassId} {B0 : Nat} {ad bk : Nat → Nat} {S : ST} {I : Int → Bool} {cX qX : Int → Int64} {G : gF} (b : Int) (c : Int) (v : Int) (hwf : wf S) (hb0 : 0 ≤ b ∧ b ≤ 5)(hc : 0 ≤ c ∧ c ≤ 2) (hv : rI v) : gM l yX0_changeLine vX0_changeLine 1 23 D cy B0 [.ref (ad 3), .int (iI (b)), .int (iI (c)), .int (iI (v))] (kW cy ad bk S (I, cX, qX) G) (fun r g_ => r = some (.int (iI (S.1 2 (3 * b + c)))) ∧ g_ = kW cy ad bk (pI S 2 (3 * b + c) v) (I, cX, qX) G) 0 0 := by
  refine g_start (cc := cX0_changeLine) (maxL := 6) (ret := (some .int)) (by decide) rfl (Nat.le_of_ble_eq_true rfl) ?_
  intro p_ e_ s_ m_ be_ me_ co_ ls H locs K hr hlk hnm hK hW hl
  obtain ⟨hx, hb, hml, hown, hts⟩ := id K
  have hl : lv_has ls 6 [(0, .ref (ad 3)), (1, .int (iI (b))), (2, .int (iI (c))), (3, .int (iI (v)))] := hl
  refine lv_iload_n hx hb dX0_changeLine_0 rfl (lv_at hl 1 rfl) ?_
  refine lv_iload_n hx hb dX0_changeLine_1 rfl (lv_at hl 2 rfl) ?_
  refine g_callSN (As := [.int (iI (b)), .int (iI (c))]) (rest := []) K (c_X11_accountSlot (b) (c)) ⟨va_cnB 2 hts gC_X11_accountSlot rfl rfl rfl (hK.2.1 _ (List.mem_of_getElem? (i := 2) rfl)) (hts _ iC_X11) (by decide +kernel) ⟨Nat.le_of_ble_eq_true rfl, Nat.le_of_ble_eq_true rfl⟩, hts _ sC_X11_accountSlot, trivial⟩ hK hW rfl hl.1 rfl (Nat.le_of_ble_eq_true rfl) dX0_changeLine_2 ⟨Nat.le_refl _, Nat.le_refl _⟩ (fun v_ f_ H locs hp hW => ?_)
  obtain ⟨hpv, hpe⟩ := hp
  rw [hpe] at hW
  subst hpv
  refine lv_istore (lv' := [(4, .int (iI (3 * b + c))), (0, .ref (ad 3)), (1, .int (iI (b))), (2, .int (iI (c))), (3, .int (iI (v)))]) hx hb dX0_changeLine_5 hl (by decide) rfl (fun ls hl => ?_)
  refine lv_aload_n hx hb dX0_changeLine_7 rfl (lv_at hl 1 rfl) ?_
  refine g_get (ref := RX0) (T := TX0) (N := 5) (ci := 1) hx hb hts wsC_X0 hown hK hW (100000 + 3) (kW_at rfl) rfl 2 (by decide) (hts _ lC_X0_27) (fun x h => h) (v := .ref (ad 22)) rfl dX0_changeLine_8 ?_
  refine lv_iload hx hb dX0_changeLine_11 (lv_at hl 0 rfl) ?_
  refine g_callV (i := 100000 + 22) (As := [.int (iI (3 * b + c))]) (rest := []) K (c_X9_at (i := 100000 + 22) (j := 100000 + (40 + 2)) (3 * b + c) (kW_at rfl) (kW_at (kC_row (r := 2) (by decide))) (by decide) (by decide) (show 0 ≤ (3 * b + c) ∧ (3 * b + c) < ((18 : Nat) : Int) from ⟨by omega, by omega⟩)) (cwV 1 hts gC_X0_46 rfl rfl rfl (by decide +kernel) ⟨Nat.le_of_ble_eq_true rfl, Nat.le_of_ble_eq_true rfl⟩) hK hW (kW_at rfl) rfl rfl hl.1 rfl (Nat.le_of_ble_eq_true rfl) dX0_changeLine_13 ⟨Nat.le_refl _, Nat.le_refl _⟩ (fun v_ f_ H locs hp hW => ?_)
  obtain ⟨hpv, hpe⟩ := hp
  rw [hpe] at hW
  have hpv : v_ = some (.long (Int64.ofInt (S.1 2 (3 * b + c)))) := hpv
  subst hpv
  refine xi_l2i hx hb dX0_changeLine_16 ?_
  refine lv_istore (lv' := [(5, .int (iI (S.1 2 (3 * b + c)))), (4, .int (iI (3 * b + c))), (0, .ref (ad 3)), (1, .int (iI (b))), (2, .int (iI (c))), (3, .int (iI (v)))]) hx hb dX0_changeLine_17 hl (by decide) rfl (fun ls hl => ?_)
  refine lv_aload_n hx hb dX0_changeLine_19 rfl (lv_at hl 2 rfl) ?_
  refine g_get (ref := RX0) (T := TX0) (N := 5) (ci := 1) hx hb hts wsC_X0 hown hK hW (100000 + 3) (kW_at rfl) rfl 2 (by decide) (hts _ lC_X0_27) (fun x h => h) (v := .ref (ad 22)) rfl dX0_changeLine_20 ?_
  refine lv_iload hx hb dX0_changeLine_23 (lv_at hl 1 rfl) ?_
  refine lv_iload_n hx hb dX0_changeLine_25 rfl (lv_at hl 5 rfl) ?_
  refine xi_i2l hx hb ⟨by omega, by omega⟩ dX0_changeLine_26 ?_
  refine g_callV (i := 100000 + 22) (As := [.int (iI (3 * b + c)), .long (Int64.ofInt (v))]) (rest := []) K (c_X9_put (i := 100000 + 22) (j := 100000 + (40 + 2)) (3 * b + c) (Int64.ofInt (v)) (kW_at rfl) (kW_at (kC_row (r := 2) (by decide))) (by decide) (by decide) (show 0 ≤ (3 * b + c) ∧ (3 * b + c) < ((18 : Nat) : Int) from ⟨by omega, by omega⟩)) (cwV 2 hts gC_X0_50 rfl rfl rfl (by decide +kernel) ⟨Nat.le_of_ble_eq_true rfl, Nat.le_of_ble_eq_true rfl⟩) hK hW (kW_at rfl) rfl rfl hl.1 rfl (Nat.le_of_ble_eq_true rfl) dX0_changeLine_27 ⟨Nat.le_refl _, Nat.le_refl _⟩ (fun v_ f_ H locs hp hW => ?_)
  obtain ⟨hpv, hpe⟩ := hp
  rw [hpe.trans (kW_rI (cy := cy) (ad := ad) (bk := bk) (S := S) (X := (I, cX, qX)) (G := G) 2 (by decide) (z := 3 * b + c) (v := v) (by decide))] at hW
  subst hpv
  refine lv_iload hx hb dX0_changeLine_30 (lv_at hl 0 rfl) ?_
  exact g_iret hx hb hr hW ⟨rfl, rfl⟩ dX0_changeLine_32 hlk
set_option maxHeartbeats 4000000 in
set_option maxRecDepth 100000 in
theorem c_X0_changeLimit {l : Launch} {D : va_G} {cy : Nat → ClassId} {B0 : Nat} {ad bk : Nat → Nat} {S : ST} {I : Int → Bool} {cX qX : Int → Int64} {G : gF} (y : Int) (v : Int) (hwf : wf S) (hy : 0 ≤ y ∧ y < 108) (hv : rI v) : gM l yX0_changeLimit vX0_changeLimit 1 23 D cy B0 [.ref (ad 3), .int (iI (y)), .int (iI (v))] (kW cy ad bk S (I, cX, qX) G) (fun r g_ => r = some (.int (iI (S.1 3 y))) ∧ g_ = kW cy ad bk (pI S 3 y v) (I, cX, qX) G) 0 0 := by
  refine g_start (cc := cX0_changeLimit) (maxL := 4) (ret := (some .int)) (by decide) rfl (Nat.le_of_ble_eq_true rfl) ?_
  intro p_ e_ s_ m_ be_ me_ co_ ls H locs K hr hlk hnm hK hW hl
  obtain ⟨hx, hb, hml, hown, hts⟩ := id K
  have hl : lv_has ls 4 [(0, .ref (ad 3)), (1, .int (iI (y))), (2, .int (iI (v)))] := hl
  refine lv_aload_n hx hb dX0_changeLimit_0 rfl (lv_at hl 0 rfl) ?_
  refine g_get (ref := RX0) (T := TX0) (N := 5) (ci := 1) hx hb hts wsC_X0 hown hK hW (100000 + 3) (kW_at rfl) rfl 4 (by decide) (hts _ lC_X0_33) (fun x h => h) (v := .ref (ad 24)) rfl dX0_changeLimit_1 ?_
  refine lv_iload_n hx hb dX0_changeLimit_4 rfl (lv_at hl 1 rfl) ?_
  refine g_callV (i := 100000 + 24) (As := [.int (iI (y))]) (rest := []) K (c_X9_at (i := 100000 + 24) (j := 100000 + (40 + 4)) (y) (kW_at rfl) (kW_at (kC_row (r := 4) (by decide))) (by decide) (by decide) (show 0 ≤ (y) ∧ (y) < ((108 : Nat) : Int) from ⟨by omega, by omega⟩)) (cwV 1 hts gC_X0_46 rfl rfl rfl (by decide +kernel) ⟨Nat.le_of_ble_eq_true rfl, Nat.le_of_ble_eq_true rfl⟩) hK hW (kW_at rfl) rfl rfl hl.1 rfl (Nat.le_of_ble_eq_true rfl) dX0_changeLimit_5 ⟨Nat.le_refl _, Nat.le_refl _⟩ (fun v_ f_ H locs hp hW => ?_)
  obtain ⟨hpv, hpe⟩ := hp
  rw [hpe] at hW
  have hpv : v_ = some (.long (Int64.ofInt (S.1 3 (y)))) := hpv
  subst hpv
  refine xi_l2i hx hb dX0_changeLimit_8 ?_
  refine lv_istore_n (lv' := [(3, .int (iI (S.1 3 (y)))), (0, .ref (ad 3)), (1, .int (iI (y))), (2, .int (iI (v)))]) hx hb dX0_changeLimit_9 rfl hl (by decide) rfl (fun ls hl => ?_)
  refine lv_aload_n hx hb dX0_changeLimit_10 rfl (lv_at hl 1 rfl) ?_
  refine g_get (ref := RX0) (T := TX0) (N := 5) (ci := 1) hx hb hts wsC_X0 hown hK hW (100000 + 3) (kW_at rfl) rfl 4 (by decide) (hts _ lC_X0_33) (fun x h => h) (v := .ref (ad 24)) rfl dX0_changeLimit_11 ?_
  refine lv_iload_n hx hb dX0_changeLimit_14 rfl (lv_at hl 2 rfl) ?_
  refine lv_iload_n hx hb dX0_changeLimit_15 rfl (lv_at hl 3 rfl) ?_
  refine xi_i2l hx hb ⟨by omega, by omega⟩ dX0_changeLimit_16 ?_
  refine g_callV (i := 100000 + 24) (As := [.int (iI (y)), .long (Int64.ofInt (v))]) (rest := []) K (c_X9_put (i := 100000 + 24) (j := 100000 + (40 + 4)) (y) (Int64.ofInt (v)) (kW_at rfl) (kW_at (kC_row (r := 4) (by decide))) (by decide) (by decide) (show 0 ≤ (y) ∧ (y) < ((108 : Nat) : Int) from ⟨by omega, by omega⟩)) (cwV 2 hts gC_X0_50 rfl rfl rfl (by decide +kernel) ⟨Nat.le_of_ble_eq_true rfl, Nat.le_of_ble_eq_true rfl⟩) hK hW (kW_at rfl) rfl rfl hl.1 rfl (Nat.le_of_ble_eq_true rfl) dX0_changeLimit_17 ⟨Nat.le_refl _, Nat.le_refl _⟩ (fun v_ f_ H locs hp hW => ?_)
  obtain ⟨hpv, hpe⟩ := hp
  rw [hpe.trans (kW_rI (cy := cy) (ad := ad) (bk := bk) (S := S) (X := (I, cX, qX)) (G := G) 4 (by decide) (z := y) (v := v) (by decide))] at hW
  subst hpv
  refine lv_iload_n hx hb dX0_changeLimit_20 rfl (lv_at hl 0 rfl) ?_
  exact g_iret hx hb hr hW ⟨rfl, rfl⟩ dX0_changeLimit_21 hlk
def kLow (S : ST) (x : Int) (v : Int64) : Bool := decide (v < 0) && decide (S.2 1 x + v < -Int64.ofInt (S.1 2 x))
def kPas (S : ST) (y : Int) (v : Int64) : Bool := decide (0 < v) && !decide (Int64.ofInt (S.1 3 y) = -1) && decide (Int64.ofInt (S.1 3 y) < S.2 4 y + v)
set_option maxHeartbeats 4000000 in
set_option maxRecDepth 100000 in
theorem c_X0_isTooLowBy {l : Launch} {D : va_G} {cy : Nat → ClassId} {B0 : Nat} {ad bk : Nat → Nat} {S : ST} {I : Int → Bool} {cX qX : Int → Int64} {G : gF} (x : Int) (v : Int64) (hwf : wf S) (hx0 : 0 ≤ x ∧ x < 18) : gM l yX0_isTooLowBy vX0_isTooLowBy 1 21 D cy B0 [.ref (ad 3), .int (iI (x)), .long (v)] (kW cy ad bk S (I, cX, qX) G) (fun r g_ => r = some (.int (iI (bI (kLow S x v)))) ∧ g_ = kW cy ad bk S (I, cX, qX) G) 0 0 := by
  refine g_start (cc := cX0_isTooLowBy) (maxL := 4) (ret := (some .boolean)) (by decide) rfl (Nat.le_of_ble_eq_true rfl) ?_
  intro p_ e_ s_ m_ be_ me_ co_ ls H locs K hr hlk hnm hK hW hl
  obtain ⟨hx, hb, hml, hown, hts⟩ := id K
  have hl : lv_has ls 4 [(0, .ref (ad 3)), (1, .int (iI (x))), (2, .long (v))] := hl
  refine lv_lload_n hx hb dX0_isTooLowBy_0 rfl (lv_at hl 2 rfl) ?_
  refine lv_lconst (v := 0) hx hb dX0_isTooLowBy_1 (by decide) ?_
  refine xi_lcmp_ge (tgt := 33) hx hb dX0_isTooLowBy_2 dX0_isTooLowBy_3 (by decide) (fun c_1 => ?_) (fun c_1 => ?_)
  · refine xi_iconst hx hb dX0_isTooLowBy_33 ?_
    exact g_zret hx hb hr (Or.inl rfl) hW ⟨congrArg (fun z => some (Value.int (iI z))) (bI_f (by simp only [kLow, c_1, decide_true, decide_false, Bool.true_and, Bool.and_true, Bool.false_and, Bool.and_false, Bool.true_or, Bool.or_true, Bool.false_or, Bool.or_false, Bool.not_true, Bool.not_false, eq_self])), rfl⟩ dX0_isTooLowBy_34 hlk
  · refine lv_aload_n hx hb dX0_isTooLowBy_6 rfl (lv_at hl 0 rfl) ?_
    refine g_get (ref := RX0) (T := TX0) (N := 5) (ci := 1) hx hb hts wsC_X0 hown hK hW (100000 + 3) (kW_at rfl) rfl 1 (by decide) (hts _ lC_X0_23) (fun x h => h) (v := .ref (ad 21)) rfl dX0_isTooLowBy_7 ?_
    refine lv_iload_n hx hb dX0_isTooLowBy_10 rfl (lv_at hl 1 rfl) ?_
    refine g_callV (i := 100000 + 21) (As := [.int (iI (x))]) (rest := []) K (c_X9_at (i := 100000 + 21) (j := 100000 + (40 + 1)) (x) (kW_at rfl) (kW_at (kC_row (r := 1) (by decide))) (by decide) (by decide) (show 0 ≤ (x) ∧ (x) < ((21 : Nat) : Int) from ⟨by omega, by omega⟩)) (cwV 1 hts gC_X0_46 rfl rfl rfl (by decide +kernel) ⟨Nat.le_of_ble_eq_true rfl, Nat.le_of_ble_eq_true rfl⟩) hK hW (kW_at rfl) rfl rfl hl.1 rfl (Nat.le_of_ble_eq_true rfl) dX0_isTooLowBy_11 ⟨Nat.le_refl _, Nat.le_refl _⟩ (fun v_ f_ H locs hp hW => ?_)
    obtain ⟨hpv, hpe⟩ := hp
    rw [hpe] at hW
    have hpv : v_ = some (.long (S.2 1 (x))) := hpv
    subst hpv
    refine lv_lload_n hx hb dX0_isTooLowBy_14 rfl (lv_at hl 2 rfl) ?_
    refine lv_ladd hx hb dX0_isTooLowBy_15 ?_
    refine lv_aload_n hx hb dX0_isTooLowBy_16 rfl (lv_at hl 0 rfl) ?_
    refine g_get (ref := RX0) (T := TX0) (N := 5) (ci := 1) hx hb hts wsC_X0 hown hK hW (100000 + 3) (kW_at rfl) rfl 2 (by decide) (hts _ lC_X0_27) (fun x h => h) (v := .ref (ad 22)) rfl dX0_isTooLowBy_17 ?_
    refine lv_iload_n hx hb dX0_isTooLowBy_20 rfl (lv_at hl 1 rfl) ?_
    refine g_callV (i := 100000 + 22) (As := [.int (iI (x))]) (rest := [.long ((S.2 1 (x)) + v)]) K (c_X9_at (i := 100000 + 22) (j := 100000 + (40 + 2)) (x) (kW_at rfl) (kW_at (kC_row (r := 2) (by decide))) (by decide) (by decide) (show 0 ≤ (x) ∧ (x) < ((18 : Nat) : Int) from ⟨by omega, by omega⟩)) (cwV 1 hts gC_X0_46 rfl rfl rfl (by decide +kernel) ⟨Nat.le_of_ble_eq_true rfl, Nat.le_of_ble_eq_true rfl⟩) hK hW (kW_at rfl) rfl rfl hl.1 rfl (Nat.le_of_ble_eq_true rfl) dX0_isTooLowBy_21 ⟨Nat.le_refl _, Nat.le_refl _⟩ (fun v_ f_ H locs hp hW => ?_)
    obtain ⟨hpv, hpe⟩ := hp
    rw [hpe] at hW
    have hpv : v_ = some (.long (Int64.ofInt (S.1 2 (x)))) := hpv
    subst hpv
    refine lv_lneg hx hb dX0_isTooLowBy_24 ?_
    refine xi_lcmp_ge (tgt := 33) hx hb dX0_isTooLowBy_25 dX0_isTooLowBy_26 (by decide) (fun c_2 => ?_) (fun c_2 => ?_)
    · refine xi_iconst hx hb dX0_isTooLowBy_33 ?_
      exact g_zret hx hb hr (Or.inl rfl) hW ⟨congrArg (fun z => some (Value.int (iI z))) (bI_f (by simp only [kLow, c_1, c_2, decide_true, decide_false, Bool.true_and, Bool.and_true, Bool.false_and, Bool.and_false, Bool.true_or, Bool.or_true, Bool.false_or, Bool.or_false, Bool.not_true, Bool.not_false, eq_self])), rfl⟩ dX0_isTooLowBy_34 hlk
    · refine xi_iconst hx hb dX0_isTooLowBy_29 ?_
      refine lv_goto (tgt := 34) hx hb dX0_isTooLowBy_30 (by decide) ?_
      exact g_zret hx hb hr (Or.inr rfl) hW ⟨congrArg (fun z => some (Value.int (iI z))) (bI_t (by simp only [kLow, c_1, c_2, decide_true, decide_false, Bool.true_and, Bool.and_true, Bool.false_and, Bool.and_false, Bool.true_or, Bool.or_true, Bool.false_or, Bool.or_false, Bool.not_true, Bool.not_false, eq_self])), rfl⟩ dX0_isTooLowBy_34 hlk
set_option maxHeartbeats 4000000 in
set_option maxRecDepth 100000 in
theorem c_X0_isPassedBy {l : Launch} {D : va_G} {cy : Nat → ClassId} {B0 : Nat} {ad bk : Nat → Nat} {S : ST} {I : Int → Bool} {cX qX : Int → Int64} {G : gF} (y : Int) (v : Int64) (hwf : wf S) (hy : 0 ≤ y ∧ y < 108) : gM l yX0_isPassedBy vX0_isPassedBy 1 21 D cy B0 [.ref (ad 3), .int (iI (y)), .long (v)] (kW cy ad bk S (I, cX, qX) G) (fun r g_ => r = some (.int (iI (bI (kPas S y v)))) ∧ g_ = kW cy ad bk S (I, cX, qX) G) 0 0 := by
  refine g_start (cc := cX0_isPassedBy) (maxL := 6) (ret := (some .boolean)) (by decide) rfl (Nat.le_of_ble_eq_true rfl) ?_
  intro p_ e_ s_ m_ be_ me_ co_ ls H locs K hr hlk hnm hK hW hl
  obtain ⟨hx, hb, hml, hown, hts⟩ := id K
  have hl : lv_has ls 6 [(0, .ref (ad 3)), (1, .int (iI (y))), (2, .long (v))] := hl
  refine lv_aload_n hx hb dX0_isPassedBy_0 rfl (lv_at hl 0 rfl) ?_
  refine g_get (ref := RX0) (T := TX0) (N := 5) (ci := 1) hx hb hts wsC_X0 hown hK hW (100000 + 3) (kW_at rfl) rfl 4 (by decide) (hts _ lC_X0_33) (fun x h => h) (v := .ref (ad 24)) rfl dX0_isPassedBy_1 ?_
  refine lv_iload_n hx hb dX0_isPassedBy_4 rfl (lv_at hl 1 rfl) ?_
  refine g_callV (i := 100000 + 24) (As := [.int (iI (y))]) (rest := []) K (c_X9_at (i := 100000 + 24) (j := 100000 + (40 + 4)) (y) (kW_at rfl) (kW_at (kC_row (r := 4) (by decide))) (by decide) (by decide) (show 0 ≤ (y) ∧ (y) < ((108 : Nat) : Int) from ⟨by omega, by omega⟩)) (cwV 1 hts gC_X0_46 rfl rfl rfl (by decide +kernel) ⟨Nat.le_of_ble_eq_true rfl, Nat.le_of_ble_eq_true rfl⟩) hK hW (kW_at rfl) rfl rfl hl.1 rfl (Nat.le_of_ble_eq_true rfl) dX0_isPassedBy_5 ⟨Nat.le_refl _, Nat.le_refl _⟩ (fun v_ f_ H locs hp hW => ?_)
  obtain ⟨hpv, hpe⟩ := hp
  rw [hpe] at hW
  have hpv : v_ = some (.long (Int64.ofInt (S.1 3 (y)))) := hpv
  subst hpv
  refine lv_lstore (lv' := [(4, .long (Int64.ofInt (S.1 3 (y)))), (0, .ref (ad 3)), (1, .int (iI (y))), (2, .long (v))]) hx hb dX0_isPassedBy_8 hl (by decide) rfl (fun ls hl => ?_)
  refine lv_lload_n hx hb dX0_isPassedBy_10 rfl (lv_at hl 3 rfl) ?_
  refine lv_lconst (v := 0) hx hb dX0_isPassedBy_11 (by decide) ?_
  refine xi_lcmp_le (tgt := 45) hx hb dX0_isPassedBy_12 dX0_isPassedBy_13 (by decide) (fun c_1 => ?_) (fun c_1 => ?_)
  · refine xi_iconst hx hb dX0_isPassedBy_45 ?_
    exact g_zret hx hb hr (Or.inl rfl) hW ⟨congrArg (fun z => some (Value.int (iI z))) (bI_f (by simp only [kPas, c_1, decide_true, decide_false, Bool.true_and, Bool.and_true, Bool.false_and, Bool.and_false, Bool.true_or, Bool.or_true, Bool.false_or, Bool.or_false, Bool.not_true, Bool.not_false, eq_self])), rfl⟩ dX0_isPassedBy_46 hlk
  · refine lv_lload hx hb dX0_isPassedBy_16 (lv_at hl 0 rfl) ?_
    refine lv_ldc2 (v := -1) hx hb hown (hts _ kC_X0_36) dX0_isPassedBy_18 ?_
    refine xi_lcmp_eq (tgt := 45) hx hb dX0_isPassedBy_21 dX0_isPassedBy_22 (by decide) (fun c_2 => ?_) (fun c_2 => ?_)
    · refine xi_iconst hx hb dX0_isPassedBy_45 ?_
      exact g_zret hx hb hr (Or.inl rfl) hW ⟨congrArg (fun z => some (Value.int (iI z))) (bI_f (by simp only [kPas, c_1, c_2, decide_true, decide_false, Bool.true_and, Bool.and_true, Bool.false_and, Bool.and_false, Bool.true_or, Bool.or_true, Bool.false_or, Bool.or_false, Bool.not_true, Bool.not_false, eq_self])), rfl⟩ dX0_isPassedBy_46 hlk
    · refine lv_aload_n hx hb dX0_isPassedBy_25 rfl (lv_at hl 1 rfl) ?_
      refine g_get (ref := RX0) (T := TX0) (N := 5) (ci := 1) hx hb hts wsC_X0 hown hK hW (100000 + 3) (kW_at rfl) rfl 3 (by decide) (hts _ lC_X0_30) (fun x h => h) (v := .ref (ad 23)) rfl dX0_isPassedBy_26 ?_
      refine lv_iload_n hx hb dX0_isPassedBy_29 rfl (lv_at hl 2 rfl) ?_
      refine g_callV (i := 100000 + 23) (As := [.int (iI (y))]) (rest := []) K (c_X9_at (i := 100000 + 23) (j := 100000 + (40 + 3)) (y) (kW_at rfl) (kW_at (kC_row (r := 3) (by decide))) (by decide) (by decide) (show 0 ≤ (y) ∧ (y) < ((108 : Nat) : Int) from ⟨by omega, by omega⟩)) (cwV 1 hts gC_X0_46 rfl rfl rfl (by decide +kernel) ⟨Nat.le_of_ble_eq_true rfl, Nat.le_of_ble_eq_true rfl⟩) hK hW (kW_at rfl) rfl rfl hl.1 rfl (Nat.le_of_ble_eq_true rfl) dX0_isPassedBy_30 ⟨Nat.le_refl _, Nat.le_refl _⟩ (fun v_ f_ H locs hp hW => ?_)
      obtain ⟨hpv, hpe⟩ := hp
      rw [hpe] at hW
      have hpv : v_ = some (.long (S.2 4 (y))) := hpv
      subst hpv
      refine lv_lload_n hx hb dX0_isPassedBy_33 rfl (lv_at hl 3 rfl) ?_
      refine lv_ladd hx hb dX0_isPassedBy_34 ?_
      refine lv_lload hx hb dX0_isPassedBy_35 (lv_at hl 0 rfl) ?_
      refine xi_lcmp_le (tgt := 45) hx hb dX0_isPassedBy_37 dX0_isPassedBy_38 (by decide) (fun c_3 => ?_) (fun c_3 => ?_)
      · refine xi_iconst hx hb dX0_isPassedBy_45 ?_
        exact g_zret hx hb hr (Or.inl rfl) hW ⟨congrArg (fun z => some (Value.int (iI z))) (bI_f (by simp only [kPas, c_1, c_2, c_3, decide_true, decide_false, Bool.true_and, Bool.and_true, Bool.false_and, Bool.and_false, Bool.true_or, Bool.or_true, Bool.false_or, Bool.or_false, Bool.not_true, Bool.not_false, eq_self])), rfl⟩ dX0_isPassedBy_46 hlk
      · refine xi_iconst hx hb dX0_isPassedBy_41 ?_
        refine lv_goto (tgt := 46) hx hb dX0_isPassedBy_42 (by decide) ?_
        exact g_zret hx hb hr (Or.inr rfl) hW ⟨congrArg (fun z => some (Value.int (iI z))) (bI_t (by simp only [kPas, c_1, c_2, c_3, decide_true, decide_false, Bool.true_and, Bool.and_true, Bool.false_and, Bool.and_false, Bool.true_or, Bool.or_true, Bool.false_or, Bool.or_false, Bool.not_true, Bool.not_false, eq_self])), rfl⟩ dX0_isPassedBy_46 hlk
set_option maxHeartbeats 4000000 in
set_option maxRecDepth 100000 in
theorem c_X1_mostTaken {l : Launch} {D : va_G} {cy : Nat → ClassId} {B0 : Nat} {ad bk : Nat → Nat} {S : ST} {I : Int → Bool} {cX qX : Int → Int64} {G : gF} (b : Int) (hwf : wf S) (hb0 : 0 ≤ b ∧ b ≤ 5) : gM l yX1_mostTaken vX1_mostTaken 1 21 D cy B0 [.ref (ad 6), .int (iI (b))] (kW cy ad bk S (I, cX, qX) G) (fun r g_ => r = some (.int (iI (S.1 30 b))) ∧ g_ = kW cy ad bk S (I, cX, qX) G) 0 0 := by
  refine g_start (cc := cX1_mostTaken) (maxL := 2) (ret := (some .int)) (by decide) rfl (Nat.le_of_ble_eq_true rfl) ?_
  intro p_ e_ s_ m_ be_ me_ co_ ls H locs K hr hlk hnm hK hW hl
  obtain ⟨hx, hb, hml, hown, hts⟩ := id K
  have hl : lv_has ls 2 [(0, .ref (ad 6)), (1, .int (iI (b)))] := hl
  refine lv_aload_n hx hb dX1_mostTaken_0 rfl (lv_at hl 0 rfl) ?_
  refine g_get (ref := RX1) (T := TX1) (N := 4) (ci := 2) hx hb hts wsC_X1 hown hK hW (100000 + 6) (kW_at rfl) rfl 3 (by decide) (hts _ lC_X1_26) (fun x h => h) (v := .ref (ad 29)) rfl dX1_mostTaken_1 ?_
  refine lv_iload_n hx hb dX1_mostTaken_4 rfl (lv_at hl 1 rfl) ?_
  refine g_callV (i := 100000 + 29) (As := [.int (iI (b))]) (rest := []) K (c_X9_at (i := 100000 + 29) (j := 100000 + (40 + 9)) (b) (kW_at rfl) (kW_at (kC_row (r := 9) (by decide))) (by decide) (by decide) (show 0 ≤ (b) ∧ (b) < ((6 : Nat) : Int) from ⟨by omega, by omega⟩)) (cwV 1 hts gC_X1_29 rfl rfl rfl (by decide +kernel) ⟨Nat.le_of_ble_eq_true rfl, Nat.le_of_ble_eq_true rfl⟩) hK hW (kW_at rfl) rfl rfl hl.1 rfl (Nat.le_of_ble_eq_true rfl) dX1_mostTaken_5 ⟨Nat.le_refl _, Nat.le_refl _⟩ (fun v_ f_ H locs hp hW => ?_)
  obtain ⟨hpv, hpe⟩ := hp
  rw [hpe] at hW
  have hpv : v_ = some (.long (Int64.ofInt (S.1 30 (b)))) := hpv
  subst hpv
  refine xi_l2i hx hb dX1_mostTaken_8 ?_
  exact g_iret hx hb hr hW ⟨rfl, rfl⟩ dX1_mostTaken_9 hlk
set_option maxHeartbeats 4000000 in
set_option maxRecDepth 100000 in
theorem c_X1_startFrom {l : Launch} {D : va_G} {cy : Nat → ClassId} {B0 : Nat} {ad bk : Nat → Nat} {S : ST} {I : Int → Bool} {cX qX : Int → Int64} {G : gF} (b : Int) (y : Int) (hwf : wf S) (hb0 : 0 ≤ b ∧ b ≤ 5) (hy : rI y) : gM l yX1_startFrom vX1_startFrom 1 23 D cy B0 [.ref (ad 6), .int (iI (b)), .int (iI (y))] (kW cy ad bk S (I, cX, qX) G) (fun r g_ => r = some (.int (iI (S.1 44 b - y))) ∧ g_ = kW cy ad bk (pI S 29 b y) (I, cX, qX) G) 0 0 := by
  refine g_start (cc := cX1_startFrom) (maxL := 3) (ret := (some .int)) (by decide) rfl (Nat.le_of_ble_eq_true rfl) ?_
  intro p_ e_ s_ m_ be_ me_ co_ ls H locs K hr hlk hnm hK hW hl
  obtain ⟨hx, hb, hml, hown, hts⟩ := id K
  have hl : lv_has ls 3 [(0, .ref (ad 6)), (1, .int (iI (b))), (2, .int (iI (y)))] := hl
  refine lv_aload_n hx hb dX1_startFrom_0 rfl (lv_at hl 0 rfl) ?_
  refine g_get (ref := RX1) (T := TX1) (N := 4) (ci := 2) hx hb hts wsC_X1 hown hK hW (100000 + 6) (kW_at rfl) rfl 2 (by decide) (hts _ lC_X1_23) (fun x h => h) (v := .ref (ad 28)) rfl dX1_startFrom_1 ?_
  refine lv_iload_n hx hb dX1_startFrom_4 rfl (lv_at hl 1 rfl) ?_
  refine lv_iload_n hx hb dX1_startFrom_5 rfl (lv_at hl 2 rfl) ?_
  refine xi_i2l hx hb ⟨by omega, by omega⟩ dX1_startFrom_6 ?_
  refine g_callV (i := 100000 + 28) (As := [.int (iI (b)), .long (Int64.ofInt (y))]) (rest := []) K (c_X9_put (i := 100000 + 28) (j := 100000 + (40 + 8)) (b) (Int64.ofInt (y)) (kW_at rfl) (kW_at (kC_row (r := 8) (by decide))) (by decide) (by decide) (show 0 ≤ (b) ∧ (b) < ((6 : Nat) : Int) from ⟨by omega, by omega⟩)) (cwV 2 hts gC_X1_35 rfl rfl rfl (by decide +kernel) ⟨Nat.le_of_ble_eq_true rfl, Nat.le_of_ble_eq_true rfl⟩) hK hW (kW_at rfl) rfl rfl hl.1 rfl (Nat.le_of_ble_eq_true rfl) dX1_startFrom_7 ⟨Nat.le_refl _, Nat.le_refl _⟩ (fun v_ f_ H locs hp hW => ?_)
  obtain ⟨hpv, hpe⟩ := hp
  rw [hpe.trans (kW_rI (cy := cy) (ad := ad) (bk := bk) (S := S) (X := (I, cX, qX)) (G := G) 8 (by decide) (z := b) (v := y) (by decide))] at hW
  subst hpv
  refine lv_aload_n hx hb dX1_startFrom_10 rfl (lv_at hl 0 rfl) ?_
  refine g_get (ref := RX1) (T := TX1) (N := 4) (ci := 2) hx hb hts wsC_X1 hown hK hW (100000 + 6) (kW_at rfl) rfl 1 (by decide) (hts _ lC_X1_20) (fun x h => h) (v := .ref (ad 27)) rfl dX1_startFrom_11 ?_
  refine lv_iload_n hx hb dX1_startFrom_14 rfl (lv_at hl 1 rfl) ?_
  refine g_callV (i := 100000 + 27) (As := [.int (iI (b))]) (rest := []) K (c_X9_at (i := 100000 + 27) (j := 100000 + (40 + 7)) (b) (kW_at rfl) (kW_at (kC_row (r := 7) (by decide))) (by decide) (by decide) (show 0 ≤ (b) ∧ (b) < ((6 : Nat) : Int) from ⟨by omega, by omega⟩)) (cwV 1 hts gC_X1_29 rfl rfl rfl (by decide +kernel) ⟨Nat.le_of_ble_eq_true rfl, Nat.le_of_ble_eq_true rfl⟩) hK hW (kW_at rfl) rfl rfl hl.1 rfl (Nat.le_of_ble_eq_true rfl) dX1_startFrom_15 ⟨Nat.le_refl _, Nat.le_refl _⟩ (fun v_ f_ H locs hp hW => ?_)
  obtain ⟨hpv, hpe⟩ := hp
  rw [hpe] at hW
  have hpv : v_ = some (.long (Int64.ofInt (S.1 44 (b)))) := hpv
  subst hpv
  refine xi_l2i hx hb dX1_startFrom_18 ?_
  refine lv_iload_n hx hb dX1_startFrom_19 rfl (lv_at hl 2 rfl) ?_
  refine xi_isub hx hb dX1_startFrom_20 ?_
  exact g_iret hx hb hr hW ⟨rfl, rfl⟩ dX1_startFrom_21 hlk
set_option maxHeartbeats 4000000 in
set_option maxRecDepth 100000 in
theorem c_X10_isWayBackOf {l : Launch} {D : va_G} {cy : Nat → ClassId} {B0 : Nat} {ad bk : Nat → Nat} {S : ST} {I : Int → Bool} {cX qX : Int → Int64} {G : gF} (k : Int) (u : Int) (hwf : wf S) (h0 : 0 ≤ k) (h1 : k < S.1 8 0) (hu0 : 0 ≤ u) (hu1 : u < S.1 8 0) : gM l yX10_isWayBackOf vX10_isWayBackOf 0 0 D cy B0 [.ref (ad (1001 + 2 * (k).toNat)), .ref (ad (1001 + 2 * (u).toNat))] (kW cy ad bk S (I, cX, qX) G) (fun r g_ => r = some (.int (iI (bI (decide (S.1 9 k = S.1 10 u) && decide (S.1 10 k = S.1 9 u))))) ∧ g_ = kW cy ad bk S (I, cX, qX) G) 0 0 := by
  refine g_start (cc := cX10_isWayBackOf) (maxL := 2) (ret := (some .boolean)) (by decide) rfl (Nat.le_of_ble_eq_true rfl) ?_
  intro p_ e_ s_ m_ be_ me_ co_ ls H locs K hr hlk hnm hK hW hl
  obtain ⟨hx, hb, hml, hown, hts⟩ := id K
  have hl : lv_has ls 2 [(0, .ref (ad (1001 + 2 * (k).toNat))), (1, .ref (ad (1001 + 2 * (u).toNat)))] := hl
  refine lv_aload_n hx hb dX10_isWayBackOf_0 rfl (lv_at hl 0 rfl) ?_
  refine g_get (ref := RX10) (T := TX10) (N := 9) (ci := 11) hx hb hts wsC_X10 hown hK hW (100000 + (1001 + 2 * (k).toNat)) (kW_at (kC_trm hwf (by omega) (show (k) < S.1 8 0 from by omega))) rfl 0 (by decide) (hts _ lC_X10_7) (fun x h => h) (v := .int (iI (S.1 9 (k)))) rfl dX10_isWayBackOf_1 ?_
  have w_1 := wf_9 hwf (k)
  refine lv_aload_n hx hb dX10_isWayBackOf_4 rfl (lv_at hl 1 rfl) ?_
  refine g_get (ref := RX10) (T := TX10) (N := 9) (ci := 11) hx hb hts wsC_X10 hown hK hW (100000 + (1001 + 2 * (u).toNat)) (kW_at (kC_trm hwf (by omega) (show (u) < S.1 8 0 from by omega))) rfl 1 (by decide) (hts _ lC_X10_13) (fun x h => h) (v := .int (iI (S.1 10 (u)))) rfl dX10_isWayBackOf_5 ?_
  have w_2 := wf_10 hwf (u)
  refine xi_icmp_ne (tgt := 26) hx hb ⟨by omega, by omega⟩ ⟨by omega, by omega⟩ dX10_isWayBackOf_8 (by decide) (fun c_3 => ?_) (fun c_3 => ?_)
  · refine xi_iconst hx hb dX10_isWayBackOf_26 ?_
    exact g_zret hx hb hr (Or.inl rfl) hW ⟨congrArg (fun z => some (Value.int (iI z))) (bI_f (by simp only [Bool.and_eq_true, Bool.or_eq_true, Bool.and_eq_false_iff, Bool.or_eq_false_iff, decide_eq_true_eq, decide_eq_false_iff_not, Bool.not_eq_true, Bool.not_eq_false]; omega)), rfl⟩ dX10_isWayBackOf_27 hlk
  · refine lv_aload_n hx hb dX10_isWayBackOf_11 rfl (lv_at hl 0 rfl) ?_
    refine g_get (ref := RX10) (T := TX10) (N := 9) (ci := 11) hx hb hts wsC_X10 hown hK hW (100000 + (1001 + 2 * (k).toNat)) (kW_at (kC_trm hwf (by omega) (show (k) < S.1 8 0 from by omega))) rfl 1 (by decide) (hts _ lC_X10_13) (fun x h => h) (v := .int (iI (S.1 10 (k)))) rfl dX10_isWayBackOf_12 ?_
    have w_4 := wf_10 hwf (k)
    refine lv_aload_n hx hb dX10_isWayBackOf_15 rfl (lv_at hl 1 rfl) ?_
    refine g_get (ref := RX10) (T := TX10) (N := 9) (ci := 11) hx hb hts wsC_X10 hown hK hW (100000 + (1001 + 2 * (u).toNat)) (kW_at (kC_trm hwf (by omega) (show (u) < S.1 8 0 from by omega))) rfl 0 (by decide) (hts _ lC_X10_7) (fun x h => h) (v := .int (iI (S.1 9 (u)))) rfl dX10_isWayBackOf_16 ?_
    have w_5 := wf_9 hwf (u)
    refine xi_icmp_ne (tgt := 26) hx hb ⟨by omega, by omega⟩ ⟨by omega, by omega⟩ dX10_isWayBackOf_19 (by decide) (fun c_6 => ?_) (fun c_6 => ?_)
    · refine xi_iconst hx hb dX10_isWayBackOf_26 ?_
      exact g_zret hx hb hr (Or.inl rfl) hW ⟨congrArg (fun z => some (Value.int (iI z))) (bI_f (by simp only [Bool.and_eq_true, Bool.or_eq_true, Bool.and_eq_false_iff, Bool.or_eq_false_iff, decide_eq_true_eq, decide_eq_false_iff_not, Bool.not_eq_true, Bool.not_eq_false]; omega)), rfl⟩ dX10_isWayBackOf_27 hlk
    · refine xi_iconst hx hb dX10_isWayBackOf_22 ?_
      refine lv_goto (tgt := 27) hx hb dX10_isWayBackOf_23 (by decide) ?_
      exact g_zret hx hb hr (Or.inr rfl) hW ⟨congrArg (fun z => some (Value.int (iI z))) (bI_t (by simp only [Bool.and_eq_true, Bool.or_eq_true, Bool.and_eq_false_iff, Bool.or_eq_false_iff, decide_eq_true_eq, decide_eq_false_iff_not, Bool.not_eq_true, Bool.not_eq_false]; omega)), rfl⟩ dX10_isWayBackOf_27 hlk
