/-- an entry, or null -/
def eR (bk : Nat → Nat) (k : Int) : Value := if k = -1 then .null else .ref (bk (2000 + k.toNat))
/-- the numbers of the entries are small -/
def smE (S : ST) : Prop := ∀ k : Int, 0 ≤ k → k < S.1 31 0 → rI (S.2 32 (5 * k)).toInt ∧ rI (S.2 32 (5 * k + 1)).toInt ∧ rI (S.2 32 (5 * k + 2)).toInt ∧ rI (S.2 32 (5 * k + 4)).toInt
theorem i64_eq {x : Int64} {c : Int} (hc : -1000 ≤ c ∧ c ≤ 1000) : x = Int64.ofInt c ↔ x.toInt = c := by
  constructor
  · intro h
    rw [h, Int64.toInt_ofInt_of_le (by omega) (by omega)]
  · intro h
    rw [← h, Int64.ofInt_toInt]
def kAnS (S : ST) (b c k : Int) (x : Int64) : Int64 := if (S.2 32 (5 * k + 2)).toInt = c then x + (if (S.2 32 (5 * k + 1)).toInt = b then S.2 32 (5 * k + 3) else 0) - (if (S.2 32 (5 * k)).toInt = b then S.2 32 (5 * k + 3) else 0) else x
def kAn (S : ST) (b c : Int) (n : Nat) : Int64 := foS (kAnS S b c) 0 n
theorem kAn_s (S : ST) (b c : Int) (n : Nat) : kAn S b c (n + 1) = kAnS S b c n (kAn S b c n) := rfl
theorem kAn_an {S : ST} {b c : Int} (hb : 0 ≤ b ∧ b ≤ 6) (hc : 0 ≤ c ∧ c ≤ 2) (n : Nat) : kAn S b c n = sAnew S b c n := by
  refine foS_congr (fun k _ _ x => ?_)
  unfold kAnS neS neV neB
  rw [Int.add_zero]
  have e0 : decide (S.2 32 (5 * k) = Int64.ofInt b) = decide ((S.2 32 (5 * k)).toInt = b) := decide_eq_decide.mpr (i64_eq (by omega))
  have e1 : decide (S.2 32 (5 * k + 1) = Int64.ofInt b) = decide ((S.2 32 (5 * k + 1)).toInt = b) := decide_eq_decide.mpr (i64_eq (by omega))
  have e2 : decide (S.2 32 (5 * k + 2) = Int64.ofInt c) = decide ((S.2 32 (5 * k + 2)).toInt = c) := decide_eq_decide.mpr (i64_eq (by omega))
  rw [e0, e1, e2]
  by_cases h2 : (S.2 32 (5 * k + 2)).toInt = c
  · simp only [h2, if_true, decide_true, Bool.true_and, decide_eq_true_eq]
    rw [Int64.sub_eq_add_neg, Int64.sub_eq_add_neg, Int64.add_assoc, Int64.add_assoc, Int64.add_comm (-(if (S.2 32 (5 * k)).toInt = b then S.2 32 (5 * k + 3) else 0))]
  · simp [h2]
set_option maxHeartbeats 4000000 in
set_option maxRecDepth 100000 in
theorem c_X3_count {l : Launch} {D : va_G} {cy : Nat → ClassId} {B0 : Nat} {ad bk : Nat → Nat} {S : ST} {I : Int → Bool} {cX qX : Int → Int64} {G : gF}  (hwf : wf S)  : gM l yX3_count vX3_count 1 20 D cy B0 [.ref (ad 4)] (kW cy ad bk S (I, cX, qX) G) (fun r g_ => r = some (.int (iI (S.1 31 0))) ∧ g_ = kW cy ad bk S (I, cX, qX) G) 0 0 := by
  refine g_start (cc := cX3_count) (maxL := 1) (ret := (some .int)) (by decide) rfl (Nat.le_of_ble_eq_true rfl) ?_
  intro p_ e_ s_ m_ be_ me_ co_ ls H locs K hr hlk hnm hK hW hl
  obtain ⟨hx, hb, hml, hown, hts⟩ := id K
  have hl : lv_has ls 1 [(0, .ref (ad 4))] := hl
  refine lv_aload_n hx hb dX3_count_0 rfl (lv_at hl 0 rfl) ?_
  refine g_get (ref := RX3) (T := TX3) (N := 1) (ci := 4) hx hb hts wsC_X3 hown hK hW (100000 + 4) (kW_at rfl) rfl 0 (by decide) (hts _ lC_X3_12) (fun x h => h) (v := .ref (ad 8)) rfl dX3_count_1 ?_
  refine g_callV (i := 100000 + 8) (As := []) (rest := []) K (c_Jx4a65c_size_8abf5 (i := 100000 + 8) (j := 0) (n := 0) (g := fun _ => none) (kW_at rfl)) (cwV 0 hts gC_X3_18 rfl rfl rfl (by decide +kernel) ⟨Nat.le_of_ble_eq_true rfl, Nat.le_of_ble_eq_true rfl⟩) hK hW (kW_at rfl) rfl rfl hl.1 rfl (Nat.le_of_ble_eq_true rfl) dX3_count_4 ⟨Nat.le_refl _, Nat.le_refl _⟩ (fun v_ f_ H locs hp hW => ?_)
  obtain ⟨hpv, hpe⟩ := hp
  rw [hpe] at hW
  have hpv : v_ = some (.int (iI (S.1 31 (0)))) := hpv
  subst hpv
  have w_1 := wf_31 hwf 0
  exact g_iret hx hb hr hW ⟨rfl, rfl⟩ dX3_count_7 hlk
def kFnE (S : ST) (z : Int) : Int := if 0 ≤ z ∧ z < S.1 31 0 then z else -1
set_option maxHeartbeats 4000000 in
set_option maxRecDepth 100000 in
theorem c_X3_find {l : Launch} {D : va_G} {cy : Nat → ClassId} {B0 : Nat} {ad bk : Nat → Nat} {S : ST} {I : Int → Bool} {cX qX : Int → Int64} {G : gF} (z : Int) (hwf : wf S) (hz : rI z) : gM l yX3_find vX3_find 4 88 D cy B0 [.ref (ad 4), .int (iI (z))] (kW cy ad bk S (I, cX, qX) G) (fun r g_ => r = some (eR bk (kFnE S z)) ∧ g_ = kW cy ad bk S (I, cX, qX) G) 0 0 := by
  refine g_start (cc := cX3_find) (maxL := 2) (ret := (some (.object "MillstreamPayments$Entry"))) (by decide) rfl (Nat.le_of_ble_eq_true rfl) ?_
  intro p_ e_ s_ m_ be_ me_ co_ ls H locs K hr hlk hnm hK hW hl
  obtain ⟨hx, hb, hml, hown, hts⟩ := id K
  have hl : lv_has ls 2 [(0, .ref (ad 4)), (1, .int (iI (z)))] := hl
  refine lv_iload_n hx hb dX3_find_0 rfl (lv_at hl 1 rfl) ?_
  refine xi_if_lt (tgt := 29) hx hb ⟨by omega, by omega⟩ dX3_find_1 (by decide) (fun c_1 => ?_) (fun c_1 => ?_)
  · refine lv_null hx hb dX3_find_29 ?_
    exact g_aret hx hb hr (Or.inl rfl) hW ⟨by unfold kFnE; rw [if_neg (by omega)]; rfl, rfl⟩ dX3_find_30 hlk
  · refine lv_iload_n hx hb dX3_find_4 rfl (lv_at hl 1 rfl) ?_
    refine lv_aload_n hx hb dX3_find_5 rfl (lv_at hl 0 rfl) ?_
    refine g_get (ref := RX3) (T := TX3) (N := 1) (ci := 4) hx hb hts wsC_X3 hown hK hW (100000 + 4) (kW_at rfl) rfl 0 (by decide) (hts _ lC_X3_12) (fun x h => h) (v := .ref (ad 8)) rfl dX3_find_6 ?_
    refine g_callV (i := 100000 + 8) (As := []) (rest := [.int (iI (z))]) K (c_Jx4a65c_size_8abf5 (i := 100000 + 8) (j := 0) (n := 0) (g := fun _ => none) (kW_at rfl)) (cwV 0 hts gC_X3_18 rfl rfl rfl (by decide +kernel) ⟨Nat.le_of_ble_eq_true rfl, Nat.le_of_ble_eq_true rfl⟩) hK hW (kW_at rfl) rfl rfl hl.1 rfl (Nat.le_of_ble_eq_true rfl) dX3_find_9 ⟨Nat.le_refl _, Nat.le_refl _⟩ (fun v_ f_ H locs hp hW => ?_)
    obtain ⟨hpv, hpe⟩ := hp
    rw [hpe] at hW
    have hpv : v_ = some (.int (iI (S.1 31 (0)))) := hpv
    subst hpv
    have w_2 := wf_31 hwf 0
    refine xi_icmp_ge (tgt := 29) hx hb ⟨by omega, by omega⟩ ⟨by omega, by omega⟩ dX3_find_12 (by decide) (fun c_3 => ?_) (fun c_3 => ?_)
    · refine lv_null hx hb dX3_find_29 ?_
      exact g_aret hx hb hr (Or.inl rfl) hW ⟨by unfold kFnE; rw [if_neg (by omega)]; rfl, rfl⟩ dX3_find_30 hlk
    · refine lv_aload_n hx hb dX3_find_15 rfl (lv_at hl 0 rfl) ?_
      refine g_get (ref := RX3) (T := TX3) (N := 1) (ci := 4) hx hb hts wsC_X3 hown hK hW (100000 + 4) (kW_at rfl) rfl 0 (by decide) (hts _ lC_X3_12) (fun x h => h) (v := .ref (ad 8)) rfl dX3_find_16 ?_
      refine lv_iload_n hx hb dX3_find_19 rfl (lv_at hl 1 rfl) ?_
      refine g_callV (i := 100000 + 8) (As := [.int (iI (z))]) (rest := []) K (c_Jx4a65c_get_915e3 (i := 100000 + 8) (j := 100000 + 10) (z) (kW_at rfl) (kW_at (kC_l10 ((kle hwf).2.2 (show 0 < S.1 31 0 by omega)))) (kle hwf).1 (kle hwf).2.1 (show 0 ≤ (z) ∧ (z) < S.1 31 0 from ⟨by omega, by omega⟩)) (cwV 1 hts gC_X3_22 rfl rfl rfl (by decide +kernel) ⟨Nat.le_of_ble_eq_true rfl, Nat.le_of_ble_eq_true rfl⟩) hK hW (kW_at rfl) rfl rfl hl.1 rfl (Nat.le_of_ble_eq_true rfl) dX3_find_20 ⟨Nat.le_refl _, Nat.le_refl _⟩ (fun v_ f_ H locs hp hW => ?_)
      obtain ⟨hpv, hpe⟩ := hp
      rw [hpe] at hW
      have hpv : v_ = some (.ref (bk (2000 + (z).toNat))) := hpv.trans (congrArg some (lsE_at (S := S) (by omega) (show (z) < S.1 31 0 by omega)))
      subst hpv
      refine va_castS hx hb hown (hts _ hC_X3_26) (hK.1.1 6 _ rfl).2 (va_recv (q0 := 0) hK.1 (hW.1.one (kW_at (kC_ent hwf (by omega) (show (z) < S.1 31 0 by omega)))) rfl rfl) dX3_find_23 ?_
      refine lv_goto (tgt := 30) hx hb dX3_find_26 (by decide) ?_
      exact g_aret hx hb hr (Or.inr ⟨_, rfl⟩) hW ⟨by rw [show kFnE S z = z from if_pos (by omega)]; unfold eR; rw [if_neg (by omega)], rfl⟩ dX3_find_30 hlk
set_option maxHeartbeats 4000000 in
set_option maxRecDepth 100000 in
theorem c_X3_sumOf {l : Launch} {D : va_G} {cy : Nat → ClassId} {B0 : Nat} {ad bk : Nat → Nat} {S : ST} {I : Int → Bool} {cX qX : Int → Int64} {G : gF} (b : Int) (c : Int) (hwf : wf S) (hsm : smE S) (hb0 : 0 ≤ b ∧ b ≤ 6) (hc : 0 ≤ c ∧ c ≤ 2) : gM l yX3_sumOf vX3_sumOf 4 88 D cy B0 [.ref (ad 4), .int (iI (b)), .int (iI (c))] (kW cy ad bk S (I, cX, qX) G) (fun r g_ => r = some (.long (sAnew S b c (S.1 31 0).toNat)) ∧ g_ = kW cy ad bk S (I, cX, qX) G) 0 0 := by
  refine g_start (cc := cX3_sumOf) (maxL := 7) (ret := (some .long)) (by decide) rfl (Nat.le_of_ble_eq_true rfl) ?_
  intro p_ e_ s_ m_ be_ me_ co_ ls H locs K hr hlk hnm hK hW hl
  obtain ⟨hx, hb, hml, hown, hts⟩ := id K
  have hl : lv_has ls 7 [(0, .ref (ad 4)), (1, .int (iI (b))), (2, .int (iI (c)))] := hl
  have h310 := wf_31 hwf 0
  refine lv_lconst (v := 0) hx hb dX3_sumOf_0 (by decide) ?_
  refine lv_lstore_n (lv' := [(3, .long (0)), (0, .ref (ad 4)), (1, .int (iI (b))), (2, .int (iI (c)))]) hx hb dX3_sumOf_1 rfl hl (by decide) rfl (fun ls hl => ?_)
  refine xi_iconst hx hb dX3_sumOf_2 ?_
  refine lv_istore (lv' := [(5, .int (iI (0))), (3, .long (0)), (0, .ref (ad 4)), (1, .int (iI (b))), (2, .int (iI (c)))]) hx hb dX3_sumOf_3 hl (by decide) rfl (fun ls hl => ?_)
  refine lp_w1 (Wg := fun (H : Heap) (locs : List Loc) (ls : Array Slot) => W p_ l e_ { frames := 4, cells := 0, slots := 0, locals := 88 } s_ m_ ([.ref (ad 4), .int (iI (b)), .int (iI (c))] : List Value).toArray be_ me_ co_ H locs 0 0 (MQ be_ (gQ D B0 (fun (r : Option Value) (g_ : gF) => r = some (.long (sAnew S b c (S.1 31 0).toNat)) ∧ g_ = kW cy ad bk S (I, cX, qX) G)) ([.ref (ad 4), .int (iI (b)), .int (iI (c))] : List Value).toArray s_ 0 0 (fun q : Nat => B0 ≤ q)) (F0 m_ 5 ls [])) (fun (i : Int) (H : Heap) (locs : List Loc) (ls : Array Slot) => (0 ≤ i ∧ i ≤ S.1 31 0) ∧ gW D B0 s_ (kW cy ad bk S (I, cX, qX) G) H locs ∧ lv_has ls 7 [(5, .int (iI (i))), (3, .long (kAn S b c i.toNat)), (2, .int (iI (c))), (1, .int (iI (b))), (0, .ref (ad 4))]) (fun (i : Int) => (30000 - i).toNat) (fun i H locs ls hI ih_lp_1 => ?_) (0) _ _ _ ⟨⟨by decide, by omega⟩, hW, lv_sub hl [0, 1, 4, 3, 2] rfl⟩
  obtain ⟨hI_lp_1, hW, hl⟩ := hI
  have hi := hI_lp_1
  refine lv_iload hx hb dX3_sumOf_5 (lv_at hl 0 rfl) ?_
  refine lv_aload_n hx hb dX3_sumOf_7 rfl (lv_at hl 4 rfl) ?_
  refine g_get (ref := RX3) (T := TX3) (N := 1) (ci := 4) hx hb hts wsC_X3 hown hK hW (100000 + 4) (kW_at rfl) rfl 0 (by decide) (hts _ lC_X3_12) (fun x h => h) (v := .ref (ad 8)) rfl dX3_sumOf_8 ?_
  refine g_callV (i := 100000 + 8) (As := []) (rest := [.int (iI (i))]) K (c_Jx4a65c_size_8abf5 (i := 100000 + 8) (j := 0) (n := 0) (g := fun _ => none) (kW_at rfl)) (cwV 0 hts gC_X3_18 rfl rfl rfl (by decide +kernel) ⟨Nat.le_of_ble_eq_true rfl, Nat.le_of_ble_eq_true rfl⟩) hK hW (kW_at rfl) rfl rfl hl.1 rfl (Nat.le_of_ble_eq_true rfl) dX3_sumOf_11 ⟨Nat.le_refl _, Nat.le_refl _⟩ (fun v_ f_ H locs hp hW => ?_)
  obtain ⟨hpv, hpe⟩ := hp
  rw [hpe] at hW
  have hpv : v_ = some (.int (iI (S.1 31 (0)))) := hpv
  subst hpv
  have w_2 := wf_31 hwf 0
  refine xi_icmp_ge (tgt := 88) hx hb ⟨by omega, by omega⟩ ⟨by omega, by omega⟩ dX3_sumOf_14 (by decide) (fun c_3 => ?_) (fun c_3 => ?_)
  · refine lv_lload_n hx hb dX3_sumOf_88 rfl (lv_at hl 1 rfl) ?_
    exact g_lret hx hb hr hW ⟨by rw [show i.toNat = (S.1 31 0).toNat by omega, kAn_an hb0 hc], rfl⟩ dX3_sumOf_89 hlk
  · refine lv_aload_n hx hb dX3_sumOf_17 rfl (lv_at hl 4 rfl) ?_
    refine g_get (ref := RX3) (T := TX3) (N := 1) (ci := 4) hx hb hts wsC_X3 hown hK hW (100000 + 4) (kW_at rfl) rfl 0 (by decide) (hts _ lC_X3_12) (fun x h => h) (v := .ref (ad 8)) rfl dX3_sumOf_18 ?_
    refine lv_iload hx hb dX3_sumOf_21 (lv_at hl 0 rfl) ?_
    refine g_callV (i := 100000 + 8) (As := [.int (iI (i))]) (rest := []) K (c_Jx4a65c_get_915e3 (i := 100000 + 8) (j := 100000 + 10) (i) (kW_at rfl) (kW_at (kC_l10 ((kle hwf).2.2 (show 0 < S.1 31 0 by omega)))) (kle hwf).1 (kle hwf).2.1 (show 0 ≤ (i) ∧ (i) < S.1 31 0 from ⟨by omega, by omega⟩)) (cwV 1 hts gC_X3_22 rfl rfl rfl (by decide +kernel) ⟨Nat.le_of_ble_eq_true rfl, Nat.le_of_ble_eq_true rfl⟩) hK hW (kW_at rfl) rfl rfl hl.1 rfl (Nat.le_of_ble_eq_true rfl) dX3_sumOf_23 ⟨Nat.le_refl _, Nat.le_refl _⟩ (fun v_ f_ H locs hp hW => ?_)
    obtain ⟨hpv, hpe⟩ := hp
    rw [hpe] at hW
    have hpv : v_ = some (.ref (bk (2000 + (i).toNat))) := hpv.trans (congrArg some (lsE_at (S := S) (by omega) (show (i) < S.1 31 0 by omega)))
    subst hpv
    refine va_castS hx hb hown (hts _ hC_X3_26) (hK.1.1 6 _ rfl).2 (va_recv (q0 := 0) hK.1 (hW.1.one (kW_at (kC_ent hwf (by omega) (show (i) < S.1 31 0 by omega)))) rfl rfl) dX3_sumOf_26 ?_
    refine lv_astore (lv' := [(6, .ref (bk (2000 + (i).toNat))), (5, .int (iI (i))), (3, .long (kAn S b c i.toNat)), (2, .int (iI (c))), (1, .int (iI (b))), (0, .ref (ad 4))]) hx hb dX3_sumOf_29 hl (by decide) rfl (fun ls hl => ?_)
    refine lv_aload hx hb dX3_sumOf_31 (lv_at hl 0 rfl) ?_
    refine g_get (ref := RX5) (T := TX5) (N := 5) (ci := 6) hx hb hts wsC_X5 hown hK hW (100000 + (2000 + (i).toNat)) (kW_at (kC_ent hwf (by omega) (show (i) < S.1 31 0 by omega))) rfl 2 (by decide) (hts _ lC_X3_32) (fun x h => h) (v := .int (iI ((S.2 32 (5 * i + 2)).toInt))) rfl dX3_sumOf_33 ?_
    have w_4 := hsm (i) (by omega) (by omega)
    refine lv_iload_n hx hb dX3_sumOf_36 rfl (lv_at hl 3 rfl) ?_
    refine xi_icmp_ne (tgt := 82) hx hb ⟨by omega, by omega⟩ ⟨by omega, by omega⟩ dX3_sumOf_37 (by decide) (fun c_5 => ?_) (fun c_5 => ?_)
    · refine xi_iinc (lv' := [(5, .int (iI (i + 1))), (6, .ref (bk (2000 + (i).toNat))), (3, .long (kAn S b c i.toNat)), (2, .int (iI (c))), (1, .int (iI (b))), (0, .ref (ad 4))]) hx hb dX3_sumOf_82 hl (k := 1) rfl (by decide) rfl (fun ls hl => ?_)
      refine lv_goto (tgt := 5) hx hb dX3_sumOf_85 (by decide) ?_
      have hnb : kAnS S b c i (kAn S b c i.toNat) = kAn S b c i.toNat := by unfold kAnS; rw [if_neg c_5]
      have hnc : kAn S b c (i + 1).toNat = kAnS S b c i (kAn S b c i.toNat) := by rw [show (i + 1).toNat = i.toNat + 1 by omega, kAn_s, show ((i.toNat : Nat) : Int) = i by omega]
      have hl : lv_has ls 7 [(5, .int (iI (i + 1))), (3, .long (kAn S b c (i + 1).toNat)), (2, .int (iI (c))), (1, .int (iI (b))), (0, .ref (ad 4))] := by rw [hnc, hnb]; exact lv_sub hl [0, 2, 3, 4, 5] rfl
      exact ih_lp_1 (i + 1) _ _ _ (by first | omega | (dsimp only; omega)) ⟨⟨by omega, by omega⟩, hW, lv_sub hl [0, 1, 2, 3, 4] rfl⟩
    · refine lv_lload_n hx hb dX3_sumOf_40 rfl (lv_at hl 2 rfl) ?_
      refine lv_aload hx hb dX3_sumOf_41 (lv_at hl 0 rfl) ?_
      refine g_get (ref := RX5) (T := TX5) (N := 5) (ci := 6) hx hb hts wsC_X5 hown hK hW (100000 + (2000 + (i).toNat)) (kW_at (kC_ent hwf (by omega) (show (i) < S.1 31 0 by omega))) rfl 1 (by decide) (hts _ lC_X3_36) (fun x h => h) (v := .int (iI ((S.2 32 (5 * i + 1)).toInt))) rfl dX3_sumOf_43 ?_
      have w_6 := hsm (i) (by omega) (by omega)
      refine lv_iload_n hx hb dX3_sumOf_46 rfl (lv_at hl 4 rfl) ?_
      have j_7 : ∀ (zJ : Int64) (H : Heap) (locs : List Loc), zJ = ((if ((S.2 32 (5 * i + 1)).toInt) = b then S.2 32 (5 * (i) + 3) else 0)) → gW D B0 s_ (kW cy ad bk S (I, cX, qX) G) H locs → W p_ l e_ { frames := 4, cells := 0, slots := 0, locals := 88 } s_ m_ ([.ref (ad 4), .int (iI (b)), .int (iI (c))] : List Value).toArray be_ me_ co_ H locs 0 0 (MQ be_ (gQ D B0 (fun (r : Option Value) (g_ : gF) => r = some (.long (sAnew S b c (S.1 31 0).toNat)) ∧ g_ = kW cy ad bk S (I, cX, qX) G)) ([.ref (ad 4), .int (iI (b)), .int (iI (c))] : List Value).toArray s_ 0 0 (fun q : Nat => B0 ≤ q)) (F0 m_ 59 ls [.long (zJ), .long (kAn S b c i.toNat)]) := by
        intro zJ H locs hzJ hW
        subst hzJ
        refine lv_ladd hx hb dX3_sumOf_59 ?_
        refine lv_lstore_n (lv' := [(3, .long ((kAn S b c i.toNat) + (if ((S.2 32 (5 * i + 1)).toInt) = b then S.2 32 (5 * (i) + 3) else 0))), (6, .ref (bk (2000 + (i).toNat))), (5, .int (iI (i))), (2, .int (iI (c))), (1, .int (iI (b))), (0, .ref (ad 4))]) hx hb dX3_sumOf_60 rfl hl (by decide) rfl (fun ls hl => ?_)
        refine lv_lload_n hx hb dX3_sumOf_61 rfl (lv_at hl 0 rfl) ?_
        refine lv_aload hx hb dX3_sumOf_62 (lv_at hl 1 rfl) ?_
        refine g_get (ref := RX5) (T := TX5) (N := 5) (ci := 6) hx hb hts wsC_X5 hown hK hW (100000 + (2000 + (i).toNat)) (kW_at (kC_ent hwf (by omega) (show (i) < S.1 31 0 by omega))) rfl 0 (by decide) (hts _ lC_X3_43) (fun x h => h) (v := .int (iI ((S.2 32 (5 * i)).toInt))) rfl dX3_sumOf_64 ?_
        have w_8 := hsm (i) (by omega) (by omega)
        refine lv_iload_n hx hb dX3_sumOf_67 rfl (lv_at hl 4 rfl) ?_
        have j_9 : ∀ (zJ : Int64) (H : Heap) (locs : List Loc), zJ = ((if ((S.2 32 (5 * i)).toInt) = b then S.2 32 (5 * (i) + 3) else 0)) → gW D B0 s_ (kW cy ad bk S (I, cX, qX) G) H locs → W p_ l e_ { frames := 4, cells := 0, slots := 0, locals := 88 } s_ m_ ([.ref (ad 4), .int (iI (b)), .int (iI (c))] : List Value).toArray be_ me_ co_ H locs 0 0 (MQ be_ (gQ D B0 (fun (r : Option Value) (g_ : gF) => r = some (.long (sAnew S b c (S.1 31 0).toNat)) ∧ g_ = kW cy ad bk S (I, cX, qX) G)) ([.ref (ad 4), .int (iI (b)), .int (iI (c))] : List Value).toArray s_ 0 0 (fun q : Nat => B0 ≤ q)) (F0 m_ 80 ls [.long (zJ), .long ((kAn S b c i.toNat) + (if ((S.2 32 (5 * i + 1)).toInt) = b then S.2 32 (5 * (i) + 3) else 0))]) := by
          intro zJ H locs hzJ hW
          subst hzJ
          refine lv_lsub hx hb dX3_sumOf_80 ?_
          refine lv_lstore_n (lv' := [(3, .long (((kAn S b c i.toNat) + (if ((S.2 32 (5 * i + 1)).toInt) = b then S.2 32 (5 * (i) + 3) else 0)) - (if ((S.2 32 (5 * i)).toInt) = b then S.2 32 (5 * (i) + 3) else 0))), (6, .ref (bk (2000 + (i).toNat))), (5, .int (iI (i))), (2, .int (iI (c))), (1, .int (iI (b))), (0, .ref (ad 4))]) hx hb dX3_sumOf_81 rfl hl (by decide) rfl (fun ls hl => ?_)
          refine xi_iinc (lv' := [(5, .int (iI (i + 1))), (3, .long (((kAn S b c i.toNat) + (if ((S.2 32 (5 * i + 1)).toInt) = b then S.2 32 (5 * (i) + 3) else 0)) - (if ((S.2 32 (5 * i)).toInt) = b then S.2 32 (5 * (i) + 3) else 0))), (6, .ref (bk (2000 + (i).toNat))), (2, .int (iI (c))), (1, .int (iI (b))), (0, .ref (ad 4))]) hx hb dX3_sumOf_82 hl (k := 2) rfl (by decide) rfl (fun ls hl => ?_)
          refine lv_goto (tgt := 5) hx hb dX3_sumOf_85 (by decide) ?_
          have hnb : kAnS S b c i (kAn S b c i.toNat) = kAn S b c i.toNat + (if (S.2 32 (5 * i + 1)).toInt = b then S.2 32 (5 * i + 3) else 0) - (if (S.2 32 (5 * i)).toInt = b then S.2 32 (5 * i + 3) else 0) := by unfold kAnS; rw [if_pos c_5]
          have hnc : kAn S b c (i + 1).toNat = kAnS S b c i (kAn S b c i.toNat) := by rw [show (i + 1).toNat = i.toNat + 1 by omega, kAn_s, show ((i.toNat : Nat) : Int) = i by omega]
          have hl : lv_has ls 7 [(5, .int (iI (i + 1))), (3, .long (kAn S b c (i + 1).toNat)), (2, .int (iI (c))), (1, .int (iI (b))), (0, .ref (ad 4))] := by rw [hnc, hnb]; exact lv_sub hl [0, 1, 3, 4, 5] rfl
          exact ih_lp_1 (i + 1) _ _ _ (by first | omega | (dsimp only; omega)) ⟨⟨by omega, by omega⟩, hW, lv_sub hl [0, 1, 2, 3, 4] rfl⟩
        refine xi_icmp_ne (tgt := 79) hx hb ⟨by omega, by omega⟩ ⟨by omega, by omega⟩ dX3_sumOf_68 (by decide) (fun c_10 => ?_) (fun c_10 => ?_)
        · refine lv_lconst (v := 0) hx hb dX3_sumOf_79 (by decide) ?_
          exact xl_eq (z' := (if ((S.2 32 (5 * i)).toInt) = b then S.2 32 (5 * (i) + 3) else 0)) (by rw [if_neg c_10]) (j_9 _ _ _ rfl hW)
        · refine lv_aload hx hb dX3_sumOf_71 (lv_at hl 1 rfl) ?_
          refine g_get (ref := RX5) (T := TX5) (N := 5) (ci := 6) hx hb hts wsC_X5 hown hK hW (100000 + (2000 + (i).toNat)) (kW_at (kC_ent hwf (by omega) (show (i) < S.1 31 0 by omega))) rfl 3 (by decide) (hts _ lC_X3_39) (fun x h => h) (v := .long (S.2 32 (5 * i + 3))) rfl dX3_sumOf_73 ?_
          have w_11 := hsm (i) (by omega) (by omega)
          refine lv_goto (tgt := 80) hx hb dX3_sumOf_76 (by decide) ?_
          exact xl_eq (z' := (if ((S.2 32 (5 * i)).toInt) = b then S.2 32 (5 * (i) + 3) else 0)) (by rw [if_pos c_10]) (j_9 _ _ _ rfl hW)
      refine xi_icmp_ne (tgt := 58) hx hb ⟨by omega, by omega⟩ ⟨by omega, by omega⟩ dX3_sumOf_47 (by decide) (fun c_12 => ?_) (fun c_12 => ?_)
      · refine lv_lconst (v := 0) hx hb dX3_sumOf_58 (by decide) ?_
        exact xl_eq (z' := (if ((S.2 32 (5 * i + 1)).toInt) = b then S.2 32 (5 * (i) + 3) else 0)) (by rw [if_neg c_12]) (j_7 _ _ _ rfl hW)
      · refine lv_aload hx hb dX3_sumOf_50 (lv_at hl 0 rfl) ?_
        refine g_get (ref := RX5) (T := TX5) (N := 5) (ci := 6) hx hb hts wsC_X5 hown hK hW (100000 + (2000 + (i).toNat)) (kW_at (kC_ent hwf (by omega) (show (i) < S.1 31 0 by omega))) rfl 3 (by decide) (hts _ lC_X3_39) (fun x h => h) (v := .long (S.2 32 (5 * i + 3))) rfl dX3_sumOf_52 ?_
        have w_13 := hsm (i) (by omega) (by omega)
        refine lv_goto (tgt := 59) hx hb dX3_sumOf_55 (by decide) ?_
        exact xl_eq (z' := (if ((S.2 32 (5 * i + 1)).toInt) = b then S.2 32 (5 * (i) + 3) else 0)) (by rw [if_pos c_12]) (j_7 _ _ _ rfl hW)
set_option maxHeartbeats 4000000 in
set_option maxRecDepth 100000 in
theorem c_X5_part {l : Launch} {D : va_G} {cy : Nat → ClassId} {B0 : Nat} {ad bk : Nat → Nat} {S : ST} {I : Int → Bool} {cX qX : Int → Int64} {G : gF} (k : Int) (j : Int) (hwf : wf S) (hsm : smE S) (hk0 : 0 ≤ k) (hk1 : k < S.1 31 0) (hj : 0 ≤ j ∧ j ≤ 4) : gM l yX5_part vX5_part 0 0 D cy B0 [.ref (bk (2000 + (k).toNat)), .int (iI (j))] (kW cy ad bk S (I, cX, qX) G) (fun r g_ => r = some (.long (S.2 32 (5 * k + j))) ∧ g_ = kW cy ad bk S (I, cX, qX) G) 0 0 := by
  refine g_start (cc := cX5_part) (maxL := 2) (ret := (some .long)) (by decide) rfl (Nat.le_of_ble_eq_true rfl) ?_
  intro p_ e_ s_ m_ be_ me_ co_ ls H locs K hr hlk hnm hK hW hl
  obtain ⟨hx, hb, hml, hown, hts⟩ := id K
  have hl : lv_has ls 2 [(0, .ref (bk (2000 + (k).toNat))), (1, .int (iI (j)))] := hl
  refine lv_iload_n hx hb dX5_part_0 rfl (lv_at hl 1 rfl) ?_
  rcases (show j = 0 ∨ j = 1 ∨ j = 2 ∨ j = 3 ∨ j = 4 by omega) with rfl | rfl | rfl | rfl | rfl
  · refine lv_tableIn (tgt := 32) (off := 31) hx hb dX5_part_1 (by decide) (by decide) (by decide) (by decide) ?_
    refine lv_aload_n hx hb dX5_part_32 rfl (lv_at hl 0 rfl) ?_
    refine g_get (ref := RX5) (T := TX5) (N := 5) (ci := 6) hx hb hts wsC_X5 hown hK hW (100000 + (2000 + (k).toNat)) (kW_at (kC_ent hwf (by omega) (show (k) < S.1 31 0 by omega))) rfl 0 (by decide) (hts _ lC_X5_7) (fun x h => h) (v := .int (iI ((S.2 32 (5 * k)).toInt))) rfl dX5_part_33 ?_
    have w_1 := hsm (k) (by omega) (by omega)
    refine xi_i2l hx hb ⟨by omega, by omega⟩ dX5_part_36 ?_
    exact g_lret hx hb hr hW ⟨by rw [Int64.ofInt_toInt, Int.add_zero], rfl⟩ dX5_part_37 hlk
  · refine lv_tableIn (tgt := 38) (off := 37) hx hb dX5_part_1 (by decide) (by decide) (by decide) (by decide) ?_
    refine lv_aload_n hx hb dX5_part_38 rfl (lv_at hl 0 rfl) ?_
    refine g_get (ref := RX5) (T := TX5) (N := 5) (ci := 6) hx hb hts wsC_X5 hown hK hW (100000 + (2000 + (k).toNat)) (kW_at (kC_ent hwf (by omega) (show (k) < S.1 31 0 by omega))) rfl 1 (by decide) (hts _ lC_X5_13) (fun x h => h) (v := .int (iI ((S.2 32 (5 * k + 1)).toInt))) rfl dX5_part_39 ?_
    have w_2 := hsm (k) (by omega) (by omega)
    refine xi_i2l hx hb ⟨by omega, by omega⟩ dX5_part_42 ?_
    exact g_lret hx hb hr hW ⟨by rw [Int64.ofInt_toInt], rfl⟩ dX5_part_43 hlk
  · refine lv_tableIn (tgt := 44) (off := 43) hx hb dX5_part_1 (by decide) (by decide) (by decide) (by decide) ?_
    refine lv_aload_n hx hb dX5_part_44 rfl (lv_at hl 0 rfl) ?_
    refine g_get (ref := RX5) (T := TX5) (N := 5) (ci := 6) hx hb hts wsC_X5 hown hK hW (100000 + (2000 + (k).toNat)) (kW_at (kC_ent hwf (by omega) (show (k) < S.1 31 0 by omega))) rfl 2 (by decide) (hts _ lC_X5_16) (fun x h => h) (v := .int (iI ((S.2 32 (5 * k + 2)).toInt))) rfl dX5_part_45 ?_
    have w_3 := hsm (k) (by omega) (by omega)
    refine xi_i2l hx hb ⟨by omega, by omega⟩ dX5_part_48 ?_
    exact g_lret hx hb hr hW ⟨by rw [Int64.ofInt_toInt], rfl⟩ dX5_part_49 hlk
  · refine lv_tableIn (tgt := 50) (off := 49) hx hb dX5_part_1 (by decide) (by decide) (by decide) (by decide) ?_
    refine lv_aload_n hx hb dX5_part_50 rfl (lv_at hl 0 rfl) ?_
    refine g_get (ref := RX5) (T := TX5) (N := 5) (ci := 6) hx hb hts wsC_X5 hown hK hW (100000 + (2000 + (k).toNat)) (kW_at (kC_ent hwf (by omega) (show (k) < S.1 31 0 by omega))) rfl 3 (by decide) (hts _ lC_X5_19) (fun x h => h) (v := .long (S.2 32 (5 * k + 3))) rfl dX5_part_51 ?_
    have w_4 := hsm (k) (by omega) (by omega)
    exact g_lret hx hb hr hW ⟨rfl, rfl⟩ dX5_part_54 hlk
  · refine lv_tableOut (tgt := 55) hx hb dX5_part_1 (Or.inr (by decide)) (by decide) ?_
    refine lv_aload_n hx hb dX5_part_55 rfl (lv_at hl 0 rfl) ?_
    refine g_get (ref := RX5) (T := TX5) (N := 5) (ci := 6) hx hb hts wsC_X5 hown hK hW (100000 + (2000 + (k).toNat)) (kW_at (kC_ent hwf (by omega) (show (k) < S.1 31 0 by omega))) rfl 4 (by decide) (hts _ lC_X5_23) (fun x h => h) (v := .int (iI ((S.2 32 (5 * k + 4)).toInt))) rfl dX5_part_56 ?_
    have w_5 := hsm (k) (by omega) (by omega)
    refine xi_i2l hx hb ⟨by omega, by omega⟩ dX5_part_59 ?_
    exact g_lret hx hb hr hW ⟨by rw [Int64.ofInt_toInt], rfl⟩ dX5_part_60 hlk
set_option maxHeartbeats 4000000 in
set_option maxRecDepth 100000 in
theorem c_X10_isLike {l : Launch} {D : va_G} {cy : Nat → ClassId} {B0 : Nat} {ad bk : Nat → Nat} {S : ST} {I : Int → Bool} {cX qX : Int → Int64} {G : gF} (k : Int) (b : Int) (u : Int) (c : Int) (v : Int) (nm : Int) (h : Int) (rl : Bool) (d : Int) (st : Bool) (hwf : wf S) (h0 : 0 ≤ k) (h1 : k < S.1 8 0) {t : Nat} (hG3 : G 50003 = some (t, .inr (11, [.int (iI b), .int (iI u), .int (iI c), .int (iI v), .int (iI nm), .int (iI h), .int (iI (bI rl)), .int (iI d), .int (iI (bI st))]))) (hb0 : 0 ≤ b ∧ b ≤ 5) (hu : 0 ≤ u ∧ u ≤ 5) (hc : 0 ≤ c ∧ c ≤ 2) (hv : 0 ≤ v ∧ v ≤ 1000000) (hnn : 0 ≤ nm ∧ nm ≤ 19) (hh : 0 ≤ h ∧ h ≤ 2) (hd : 0 ≤ d ∧ d ≤ 999) : gM l yX10_isLike vX10_isLike 0 0 D cy B0 [.ref (ad (1001 + 2 * (k).toNat)), .ref (t)] (kW cy ad bk S (I, cX, qX) G) (fun r g_ => r = some (.int (iI (bI (decide (S.1 9 k = b) && sAlk S k u c v nm h rl d st)))) ∧ g_ = kW cy ad bk S (I, cX, qX) G) 0 0 := by
  refine g_start (cc := cX10_isLike) (maxL := 2) (ret := (some .boolean)) (by decide) rfl (Nat.le_of_ble_eq_true rfl) ?_
  intro p_ e_ s_ m_ be_ me_ co_ ls H locs K hr hlk hnm hK hW hl
  obtain ⟨hx, hb, hml, hown, hts⟩ := id K
  have hl : lv_has ls 2 [(0, .ref (ad (1001 + 2 * (k).toNat))), (1, .ref (t))] := hl
  refine lv_aload_n hx hb dX10_isLike_0 rfl (lv_at hl 0 rfl) ?_
  refine g_get (ref := RX10) (T := TX10) (N := 9) (ci := 11) hx hb hts wsC_X10 hown hK hW (100000 + (1001 + 2 * (k).toNat)) (kW_at (kC_trm hwf (by omega) (show (k) < S.1 8 0 from by omega))) rfl 0 (by decide) (hts _ lC_X10_7) (fun x h => h) (v := .int (iI (S.1 9 (k)))) rfl dX10_isLike_1 ?_
  have w_1 := wf_9 hwf (k)
  refine lv_aload_n hx hb dX10_isLike_4 rfl (lv_at hl 1 rfl) ?_
  refine g_get (ref := RX10) (T := TX10) (N := 9) (ci := 11) hx hb hts wsC_X10 hown hK hW 50003 (by rw [kW_G (by decide)]; exact hG3) rfl 0 (by decide) (hts _ lC_X10_7) (fun x h => h) (v := .int (iI (b))) rfl dX10_isLike_5 ?_
  refine xi_icmp_ne (tgt := 103) hx hb ⟨by omega, by omega⟩ ⟨by omega, by omega⟩ dX10_isLike_8 (by decide) (fun c_2 => ?_) (fun c_2 => ?_)
  · refine xi_iconst hx hb dX10_isLike_103 ?_
    exact g_zret hx hb hr (Or.inl rfl) hW ⟨congrArg (fun z => some (Value.int (iI z))) (bI_f (by simp only [sAlk, Bool.and_eq_true, Bool.or_eq_true, Bool.and_eq_false_iff, Bool.or_eq_false_iff, decide_eq_true_eq, decide_eq_false_iff_not, Bool.not_eq_true, Bool.not_eq_false]; omega)), rfl⟩ dX10_isLike_104 hlk
  · refine lv_aload_n hx hb dX10_isLike_11 rfl (lv_at hl 0 rfl) ?_
    refine g_get (ref := RX10) (T := TX10) (N := 9) (ci := 11) hx hb hts wsC_X10 hown hK hW (100000 + (1001 + 2 * (k).toNat)) (kW_at (kC_trm hwf (by omega) (show (k) < S.1 8 0 from by omega))) rfl 1 (by decide) (hts _ lC_X10_13) (fun x h => h) (v := .int (iI (S.1 10 (k)))) rfl dX10_isLike_12 ?_
    have w_3 := wf_10 hwf (k)
    refine lv_aload_n hx hb dX10_isLike_15 rfl (lv_at hl 1 rfl) ?_
    refine g_get (ref := RX10) (T := TX10) (N := 9) (ci := 11) hx hb hts wsC_X10 hown hK hW 50003 (by rw [kW_G (by decide)]; exact hG3) rfl 1 (by decide) (hts _ lC_X10_13) (fun x h => h) (v := .int (iI (u))) rfl dX10_isLike_16 ?_
    refine xi_icmp_ne (tgt := 103) hx hb ⟨by omega, by omega⟩ ⟨by omega, by omega⟩ dX10_isLike_19 (by decide) (fun c_4 => ?_) (fun c_4 => ?_)
    · refine xi_iconst hx hb dX10_isLike_103 ?_
      exact g_zret hx hb hr (Or.inl rfl) hW ⟨congrArg (fun z => some (Value.int (iI z))) (bI_f (by simp only [sAlk, Bool.and_eq_true, Bool.or_eq_true, Bool.and_eq_false_iff, Bool.or_eq_false_iff, decide_eq_true_eq, decide_eq_false_iff_not, Bool.not_eq_true, Bool.not_eq_false]; omega)), rfl⟩ dX10_isLike_104 hlk
    · refine lv_aload_n hx hb dX10_isLike_22 rfl (lv_at hl 0 rfl) ?_
      refine g_get (ref := RX10) (T := TX10) (N := 9) (ci := 11) hx hb hts wsC_X10 hown hK hW (100000 + (1001 + 2 * (k).toNat)) (kW_at (kC_trm hwf (by omega) (show (k) < S.1 8 0 from by omega))) rfl 2 (by decide) (hts _ lC_X10_16) (fun x h => h) (v := .int (iI (S.1 11 (k)))) rfl dX10_isLike_23 ?_
      have w_5 := wf_11 hwf (k)
      refine lv_aload_n hx hb dX10_isLike_26 rfl (lv_at hl 1 rfl) ?_
      refine g_get (ref := RX10) (T := TX10) (N := 9) (ci := 11) hx hb hts wsC_X10 hown hK hW 50003 (by rw [kW_G (by decide)]; exact hG3) rfl 2 (by decide) (hts _ lC_X10_16) (fun x h => h) (v := .int (iI (c))) rfl dX10_isLike_27 ?_
      refine xi_icmp_ne (tgt := 103) hx hb ⟨by omega, by omega⟩ ⟨by omega, by omega⟩ dX10_isLike_30 (by decide) (fun c_6 => ?_) (fun c_6 => ?_)
      · refine xi_iconst hx hb dX10_isLike_103 ?_
        exact g_zret hx hb hr (Or.inl rfl) hW ⟨congrArg (fun z => some (Value.int (iI z))) (bI_f (by simp only [sAlk, Bool.and_eq_true, Bool.or_eq_true, Bool.and_eq_false_iff, Bool.or_eq_false_iff, decide_eq_true_eq, decide_eq_false_iff_not, Bool.not_eq_true, Bool.not_eq_false]; omega)), rfl⟩ dX10_isLike_104 hlk
      · refine lv_aload_n hx hb dX10_isLike_33 rfl (lv_at hl 0 rfl) ?_
        refine g_get (ref := RX10) (T := TX10) (N := 9) (ci := 11) hx hb hts wsC_X10 hown hK hW (100000 + (1001 + 2 * (k).toNat)) (kW_at (kC_trm hwf (by omega) (show (k) < S.1 8 0 from by omega))) rfl 3 (by decide) (hts _ lC_X10_19) (fun x h => h) (v := .int (iI (S.1 12 (k)))) rfl dX10_isLike_34 ?_
        have w_7 := wf_12 hwf (k)
        refine lv_aload_n hx hb dX10_isLike_37 rfl (lv_at hl 1 rfl) ?_
        refine g_get (ref := RX10) (T := TX10) (N := 9) (ci := 11) hx hb hts wsC_X10 hown hK hW 50003 (by rw [kW_G (by decide)]; exact hG3) rfl 3 (by decide) (hts _ lC_X10_19) (fun x h => h) (v := .int (iI (v))) rfl dX10_isLike_38 ?_
        refine xi_icmp_ne (tgt := 103) hx hb ⟨by omega, by omega⟩ ⟨by omega, by omega⟩ dX10_isLike_41 (by decide) (fun c_8 => ?_) (fun c_8 => ?_)
        · refine xi_iconst hx hb dX10_isLike_103 ?_
          exact g_zret hx hb hr (Or.inl rfl) hW ⟨congrArg (fun z => some (Value.int (iI z))) (bI_f (by simp only [sAlk, Bool.and_eq_true, Bool.or_eq_true, Bool.and_eq_false_iff, Bool.or_eq_false_iff, decide_eq_true_eq, decide_eq_false_iff_not, Bool.not_eq_true, Bool.not_eq_false]; omega)), rfl⟩ dX10_isLike_104 hlk
        · refine lv_aload_n hx hb dX10_isLike_44 rfl (lv_at hl 0 rfl) ?_
          refine g_get (ref := RX10) (T := TX10) (N := 9) (ci := 11) hx hb hts wsC_X10 hown hK hW (100000 + (1001 + 2 * (k).toNat)) (kW_at (kC_trm hwf (by omega) (show (k) < S.1 8 0 from by omega))) rfl 4 (by decide) (hts _ lC_X10_22) (fun x h => h) (v := .int (iI (S.1 13 (k)))) rfl dX10_isLike_45 ?_
          have w_9 := wf_13 hwf (k)
          refine lv_aload_n hx hb dX10_isLike_48 rfl (lv_at hl 1 rfl) ?_
          refine g_get (ref := RX10) (T := TX10) (N := 9) (ci := 11) hx hb hts wsC_X10 hown hK hW 50003 (by rw [kW_G (by decide)]; exact hG3) rfl 4 (by decide) (hts _ lC_X10_22) (fun x h => h) (v := .int (iI (nm))) rfl dX10_isLike_49 ?_
          refine xi_icmp_ne (tgt := 103) hx hb ⟨by omega, by omega⟩ ⟨by omega, by omega⟩ dX10_isLike_52 (by decide) (fun c_10 => ?_) (fun c_10 => ?_)
          · refine xi_iconst hx hb dX10_isLike_103 ?_
            exact g_zret hx hb hr (Or.inl rfl) hW ⟨congrArg (fun z => some (Value.int (iI z))) (bI_f (by simp only [sAlk, Bool.and_eq_true, Bool.or_eq_true, Bool.and_eq_false_iff, Bool.or_eq_false_iff, decide_eq_true_eq, decide_eq_false_iff_not, Bool.not_eq_true, Bool.not_eq_false]; omega)), rfl⟩ dX10_isLike_104 hlk
          · refine lv_aload_n hx hb dX10_isLike_55 rfl (lv_at hl 0 rfl) ?_
            refine g_get (ref := RX10) (T := TX10) (N := 9) (ci := 11) hx hb hts wsC_X10 hown hK hW (100000 + (1001 + 2 * (k).toNat)) (kW_at (kC_trm hwf (by omega) (show (k) < S.1 8 0 from by omega))) rfl 5 (by decide) (hts _ lC_X10_25) (fun x h => h) (v := .int (iI (S.1 14 (k)))) rfl dX10_isLike_56 ?_
            have w_11 := wf_14 hwf (k)
            refine lv_aload_n hx hb dX10_isLike_59 rfl (lv_at hl 1 rfl) ?_
            refine g_get (ref := RX10) (T := TX10) (N := 9) (ci := 11) hx hb hts wsC_X10 hown hK hW 50003 (by rw [kW_G (by decide)]; exact hG3) rfl 5 (by decide) (hts _ lC_X10_25) (fun x h => h) (v := .int (iI (h))) rfl dX10_isLike_60 ?_
            refine xi_icmp_ne (tgt := 103) hx hb ⟨by omega, by omega⟩ ⟨by omega, by omega⟩ dX10_isLike_63 (by decide) (fun c_12 => ?_) (fun c_12 => ?_)
            · refine xi_iconst hx hb dX10_isLike_103 ?_
              exact g_zret hx hb hr (Or.inl rfl) hW ⟨congrArg (fun z => some (Value.int (iI z))) (bI_f (by simp only [sAlk, Bool.and_eq_true, Bool.or_eq_true, Bool.and_eq_false_iff, Bool.or_eq_false_iff, decide_eq_true_eq, decide_eq_false_iff_not, Bool.not_eq_true, Bool.not_eq_false]; omega)), rfl⟩ dX10_isLike_104 hlk
            · refine lv_aload_n hx hb dX10_isLike_66 rfl (lv_at hl 0 rfl) ?_
              refine g_get (ref := RX10) (T := TX10) (N := 9) (ci := 11) hx hb hts wsC_X10 hown hK hW (100000 + (1001 + 2 * (k).toNat)) (kW_at (kC_trm hwf (by omega) (show (k) < S.1 8 0 from by omega))) rfl 6 (by decide) (hts _ lC_X10_28) (fun x h => h) (v := .int (iI (S.1 15 (k)))) rfl dX10_isLike_67 ?_
              have w_13 := wf_15 hwf (k)
              refine lv_aload_n hx hb dX10_isLike_70 rfl (lv_at hl 1 rfl) ?_
              refine g_get (ref := RX10) (T := TX10) (N := 9) (ci := 11) hx hb hts wsC_X10 hown hK hW 50003 (by rw [kW_G (by decide)]; exact hG3) rfl 6 (by decide) (hts _ lC_X10_28) (fun x h => h) (v := .int (iI (bI (rl)))) rfl dX10_isLike_71 ?_
              refine xi_icmp_ne (tgt := 103) hx hb ⟨by omega, by omega⟩ (bI_r _) dX10_isLike_74 (by decide) (fun c_14 => ?_) (fun c_14 => ?_)
              · refine xi_iconst hx hb dX10_isLike_103 ?_
                exact g_zret hx hb hr (Or.inl rfl) hW ⟨congrArg (fun z => some (Value.int (iI z))) (bI_f (by simp only [sAlk, Bool.and_eq_true, Bool.or_eq_true, Bool.and_eq_false_iff, Bool.or_eq_false_iff, decide_eq_true_eq, decide_eq_false_iff_not, Bool.not_eq_true, Bool.not_eq_false]; omega)), rfl⟩ dX10_isLike_104 hlk
              · refine lv_aload_n hx hb dX10_isLike_77 rfl (lv_at hl 0 rfl) ?_
                refine g_get (ref := RX10) (T := TX10) (N := 9) (ci := 11) hx hb hts wsC_X10 hown hK hW (100000 + (1001 + 2 * (k).toNat)) (kW_at (kC_trm hwf (by omega) (show (k) < S.1 8 0 from by omega))) rfl 7 (by decide) (hts _ lC_X10_32) (fun x h => h) (v := .int (iI (S.1 16 (k)))) rfl dX10_isLike_78 ?_
                have w_15 := wf_16 hwf (k)
                refine lv_aload_n hx hb dX10_isLike_81 rfl (lv_at hl 1 rfl) ?_
                refine g_get (ref := RX10) (T := TX10) (N := 9) (ci := 11) hx hb hts wsC_X10 hown hK hW 50003 (by rw [kW_G (by decide)]; exact hG3) rfl 7 (by decide) (hts _ lC_X10_32) (fun x h => h) (v := .int (iI (d))) rfl dX10_isLike_82 ?_
                refine xi_icmp_ne (tgt := 103) hx hb ⟨by omega, by omega⟩ ⟨by omega, by omega⟩ dX10_isLike_85 (by decide) (fun c_16 => ?_) (fun c_16 => ?_)
                · refine xi_iconst hx hb dX10_isLike_103 ?_
                  exact g_zret hx hb hr (Or.inl rfl) hW ⟨congrArg (fun z => some (Value.int (iI z))) (bI_f (by simp only [sAlk, Bool.and_eq_true, Bool.or_eq_true, Bool.and_eq_false_iff, Bool.or_eq_false_iff, decide_eq_true_eq, decide_eq_false_iff_not, Bool.not_eq_true, Bool.not_eq_false]; omega)), rfl⟩ dX10_isLike_104 hlk
                · refine lv_aload_n hx hb dX10_isLike_88 rfl (lv_at hl 0 rfl) ?_
                  refine g_get (ref := RX10) (T := TX10) (N := 9) (ci := 11) hx hb hts wsC_X10 hown hK hW (100000 + (1001 + 2 * (k).toNat)) (kW_at (kC_trm hwf (by omega) (show (k) < S.1 8 0 from by omega))) rfl 8 (by decide) (hts _ lC_X10_35) (fun x h => h) (v := .int (iI (S.1 17 (k)))) rfl dX10_isLike_89 ?_
                  have w_17 := wf_17 hwf (k)
                  refine lv_aload_n hx hb dX10_isLike_92 rfl (lv_at hl 1 rfl) ?_
                  refine g_get (ref := RX10) (T := TX10) (N := 9) (ci := 11) hx hb hts wsC_X10 hown hK hW 50003 (by rw [kW_G (by decide)]; exact hG3) rfl 8 (by decide) (hts _ lC_X10_35) (fun x h => h) (v := .int (iI (bI (st)))) rfl dX10_isLike_93 ?_
                  refine xi_icmp_ne (tgt := 103) hx hb ⟨by omega, by omega⟩ (bI_r _) dX10_isLike_96 (by decide) (fun c_18 => ?_) (fun c_18 => ?_)
                  · refine xi_iconst hx hb dX10_isLike_103 ?_
                    exact g_zret hx hb hr (Or.inl rfl) hW ⟨congrArg (fun z => some (Value.int (iI z))) (bI_f (by simp only [sAlk, Bool.and_eq_true, Bool.or_eq_true, Bool.and_eq_false_iff, Bool.or_eq_false_iff, decide_eq_true_eq, decide_eq_false_iff_not, Bool.not_eq_true, Bool.not_eq_false]; omega)), rfl⟩ dX10_isLike_104 hlk
                  · refine xi_iconst hx hb dX10_isLike_99 ?_
                    refine lv_goto (tgt := 104) hx hb dX10_isLike_100 (by decide) ?_
                    exact g_zret hx hb hr (Or.inr rfl) hW ⟨congrArg (fun z => some (Value.int (iI z))) (bI_t (by simp only [sAlk, Bool.and_eq_true, Bool.or_eq_true, Bool.and_eq_false_iff, Bool.or_eq_false_iff, decide_eq_true_eq, decide_eq_false_iff_not, Bool.not_eq_true, Bool.not_eq_false]; omega)), rfl⟩ dX10_isLike_104 hlk
