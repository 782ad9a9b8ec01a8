def kIt (S : ST) (b c : Int) : Nat → Int
  | 0 => kNx S b c (-1) (nP S)
  | n + 1 => if kIt S b c n = -1 then -1 else kNx S b c (kIt S b c n) (nP S)
theorem kIt_r {S : ST} (hw : wf S) (b c : Int) : ∀ n : Nat, -1 ≤ kIt S b c n ∧ kIt S b c n < S.1 8 0
  | 0 => by
    have h := kNx_r S b c (-1) (nP S)
    have h8 := wf_8 hw 0
    unfold nP at h
    unfold kIt nP
    omega
  | n + 1 => by
    have h := kNx_r S b c (kIt S b c n) (nP S)
    have h8 := wf_8 hw 0
    unfold nP at h
    unfold kIt
    split
    · omega
    · unfold nP; omega
theorem kIt_null {S : ST} {b c : Int} {i : Nat} (h : kIt S b c i = -1) : ∀ m : Nat, i ≤ m → kIt S b c m = -1
  | 0, hm => by rw [show i = 0 by omega] at h; exact h
  | m + 1, hm => by
    by_cases e : i = m + 1
    · rw [← e]; exact h
    · unfold kIt
      rw [if_pos (kIt_null h m (by omega))]
set_option maxHeartbeats 4000000 in
set_option maxRecDepth 100000 in
theorem c_X8_queuedAt {l : Launch} {D : va_G} {cy : Nat → ClassId} {B0 : Nat} {ad bk : Nat → Nat} {S : ST} {I : Int → Bool} {cX qX : Int → Int64} {G : gF} (b : Int) (c : Int) (p : Int) (hwf : wf S) (hb0 : 0 ≤ b ∧ b ≤ 5)(hc : 0 ≤ c ∧ c ≤ 2) (hp0 : 0 ≤ p) (hp1 : rI p) : gM l yX8_queuedAt vX8_queuedAt 5 114 D cy B0 [.ref (ad 5), .int (iI (b)), .int (iI (c)), .int (iI (p))] (kW cy ad bk S (I, cX, qX) G) (fun r g_ => r = some (.int (iI (kIt S b c (if 60 < p then 60 else p).toNat))) ∧ g_ = kW cy ad bk S (I, cX, qX) G) 0 0 := by
  refine g_start (cc := cX8_queuedAt) (maxL := 6) (ret := (some .int)) (by decide) rfl (Nat.le_of_ble_eq_true rfl) ?_
  intro p_ e_ s_ m_ be_ me_ co_ ls H locs K hr hlk hnm hK hW hl
  obtain ⟨hx, hb, hml, hown, hts⟩ := id K
  have hl : lv_has ls 6 [(0, .ref (ad 5)), (1, .int (iI (b))), (2, .int (iI (c))), (3, .int (iI (p)))] := hl
  have h80 := wf_8 hwf 0
  have hm0 : 0 ≤ (if 60 < p then 60 else p) ∧ (if 60 < p then 60 else p) ≤ 60 := by split <;> omega
  refine lv_aload_n hx hb dX8_queuedAt_0 rfl (lv_at hl 0 rfl) ?_
  refine lv_iload_n hx hb dX8_queuedAt_1 rfl (lv_at hl 1 rfl) ?_
  refine lv_iload_n hx hb dX8_queuedAt_2 rfl (lv_at hl 2 rfl) ?_
  refine lv_null hx hb dX8_queuedAt_3 ?_
  refine xp_nul (ad := ad) ?_
  refine g_callV (i := 100000 + 5) (As := [.int (iI (b)), .int (iI (c)), pR ad ((-1))]) (rest := []) K (c_X8_nextQueued (b) (c) ((-1)) hwf ⟨by omega, by omega⟩ ⟨by omega, by omega⟩ (by omega)) (cwV 3 hts gC_X8_80 rfl rfl rfl (by decide +kernel) ⟨Nat.le_of_ble_eq_true rfl, Nat.le_of_ble_eq_true rfl⟩) hK hW (kW_at rfl) rfl rfl hl.1 rfl (Nat.le_of_ble_eq_true rfl) dX8_queuedAt_4 ⟨Nat.le_refl _, Nat.le_refl _⟩ (fun v_ f_ H locs hp hW => ?_)
  obtain ⟨hpv, hpe⟩ := hp
  rw [hpe] at hW
  have hpv : v_ = some (pR ad (kNx S b c (-1) (nP S))) := hpv
  subst hpv
  refine xp_astore (lv' := [(4, pR ad (kNx S b c (-1) (nP S))), (0, .ref (ad 5)), (1, .int (iI (b))), (2, .int (iI (c))), (3, .int (iI (p)))]) hx hb dX8_queuedAt_7 hl (by decide) (by simp [pR_cat, cat_i, cat_l, cat_r, cat_n]) (fun ls hl => ?_)
  refine xi_iconst hx hb dX8_queuedAt_9 ?_
  refine lv_istore (lv' := [(5, .int (iI (0))), (4, pR ad (kNx S b c (-1) (nP S))), (0, .ref (ad 5)), (1, .int (iI (b))), (2, .int (iI (c))), (3, .int (iI (p)))]) hx hb dX8_queuedAt_10 hl (by decide) (by simp [pR_cat, cat_i, cat_l, cat_r, cat_n]) (fun ls hl => ?_)
  refine lp_w2 (Wg := fun (H : Heap) (locs : List Loc) (ls : Array Slot) => W p_ l e_ { frames := 5, cells := 0, slots := 0, locals := 114 } s_ m_ ([.ref (ad 5), .int (iI (b)), .int (iI (c)), .int (iI (p))] : List Value).toArray be_ me_ co_ H locs 0 0 (MQ be_ (gQ D B0 (fun (r : Option Value) (g_ : gF) => r = some (.int (iI (kIt S b c (if 60 < p then 60 else p).toNat))) ∧ g_ = kW cy ad bk S (I, cX, qX) G)) ([.ref (ad 5), .int (iI (b)), .int (iI (c)), .int (iI (p))] : List Value).toArray s_ 0 0 (fun q : Nat => B0 ≤ q)) (F0 m_ 12 ls [])) (fun (i : Int) (y : Int) (H : Heap) (locs : List Loc) (ls : Array Slot) => ((0 ≤ i ∧ i ≤ (if 60 < p then 60 else p)) ∧ y = kIt S b c i.toNat) ∧ gW D B0 s_ (kW cy ad bk S (I, cX, qX) G) H locs ∧ lv_has ls 6 [(5, .int (iI (i))), (4, pR ad (y)), (3, .int (iI (p))), (2, .int (iI (c))), (1, .int (iI (b))), (0, .ref (ad 5))]) (fun (i : Int) (y : Int) => (60 - i).toNat) (fun i y H locs ls hI ih_lp_1 => ?_) (0) (kNx S b c (-1) (nP S)) _ _ _ ⟨⟨⟨by decide, by omega⟩, rfl⟩, hW, lv_sub hl [0, 1, 5, 4, 3, 2] rfl⟩
  obtain ⟨hI_lp_1, hW, hl⟩ := hI
  obtain ⟨hi, hy⟩ := hI_lp_1
  have hyr := kIt_r hwf b c i.toNat
  rw [← hy] at hyr
  refine lv_iload hx hb dX8_queuedAt_12 (lv_at hl 0 rfl) ?_
  refine lv_iload_n hx hb dX8_queuedAt_14 rfl (lv_at hl 2 rfl) ?_
  refine xi_bipush hx hb dX8_queuedAt_15 (by decide) ?_
  refine va_mmin hx hb (by rw [hml]; exact hl.1.symm) hown (hts _ (wsC_sub _ wsCw_479)) (hts _ (wsC_sub _ wsCw_78)) (hts _ (wsC_sub _ wsCw_25)) (hts _ (wsC_sub _ wsCw_79)) (Nat.le_of_ble_eq_true rfl) (Nat.le_of_ble_eq_true rfl) (Nat.le_of_ble_eq_true rfl) (Nat.le_of_ble_eq_true rfl) dX8_queuedAt_17 ?_
  rw [iI_min ⟨by omega, by omega⟩ ⟨by omega, by omega⟩]
  refine xi_icmp_ge (tgt := 44) hx hb ⟨by omega, by omega⟩ ⟨by omega, by omega⟩ dX8_queuedAt_20 (by decide) (fun c_2 => ?_) (fun c_2 => ?_)
  · refine xp_aload hx hb dX8_queuedAt_44 (lv_at hl 1 rfl) ?_
    refine xp_ifnonnull (tgt := 53) hx hb dX8_queuedAt_46 (by decide) (fun c_3 => ?_) (fun c_3 => ?_)
    · refine xp_aload hx hb dX8_queuedAt_53 (lv_at hl 1 rfl) ?_
      refine xp_ref (k := y) (by omega) ?_
      refine g_get (ref := RX7) (T := TX7) (N := 9) (ci := 8) hx hb hts wsC_X7 hown hK hW (100000 + (1000 + 2 * (y).toNat)) (kW_at (kC_pay hwf (by omega) (show (y) < S.1 8 0 from by omega))) rfl 0 (by decide) (hts _ lC_X8_90) (fun x h => h) (v := .int (iI (y))) rfl dX8_queuedAt_55 ?_
      exact g_iret hx hb hr hW ⟨by rw [hy, show i.toNat = (if 60 < p then 60 else p).toNat by omega], rfl⟩ dX8_queuedAt_58 hlk
    · refine xi_iconst hx hb dX8_queuedAt_49 ?_
      refine lv_goto (tgt := 58) hx hb dX8_queuedAt_50 (by decide) ?_
      exact g_iret hx hb hr hW ⟨by rw [kIt_null (i := i.toNat) (by rw [← hy]; exact c_3) _ (by omega)], rfl⟩ dX8_queuedAt_58 hlk
  · refine xp_aload hx hb dX8_queuedAt_23 (lv_at hl 1 rfl) ?_
    refine xp_ifnull (tgt := 44) hx hb dX8_queuedAt_25 (by decide) (fun c_4 => ?_) (fun c_4 => ?_)
    · refine xp_aload hx hb dX8_queuedAt_44 (lv_at hl 1 rfl) ?_
      refine xp_ifnonnull (tgt := 53) hx hb dX8_queuedAt_46 (by decide) (fun c_5 => ?_) (fun c_5 => ?_)
      · exact absurd c_4 c_5
      · refine xi_iconst hx hb dX8_queuedAt_49 ?_
        refine lv_goto (tgt := 58) hx hb dX8_queuedAt_50 (by decide) ?_
        exact g_iret hx hb hr hW ⟨by rw [kIt_null (i := i.toNat) (by rw [← hy]; exact c_4) _ (by omega)], rfl⟩ dX8_queuedAt_58 hlk
    · refine lv_aload_n hx hb dX8_queuedAt_28 rfl (lv_at hl 5 rfl) ?_
      refine lv_iload_n hx hb dX8_queuedAt_29 rfl (lv_at hl 4 rfl) ?_
      refine lv_iload_n hx hb dX8_queuedAt_30 rfl (lv_at hl 3 rfl) ?_
      refine xp_aload hx hb dX8_queuedAt_31 (lv_at hl 1 rfl) ?_
      refine xp_ref (k := y) (by omega) ?_
      refine xp_un (k := y) (by omega) ?_
      refine g_callV (i := 100000 + 5) (As := [.int (iI (b)), .int (iI (c)), pR ad (y)]) (rest := []) K (c_X8_nextQueued (b) (c) (y) hwf ⟨by omega, by omega⟩ ⟨by omega, by omega⟩ (by omega)) (cwV 3 hts gC_X8_80 rfl rfl rfl (by decide +kernel) ⟨Nat.le_of_ble_eq_true rfl, Nat.le_of_ble_eq_true rfl⟩) hK hW (kW_at rfl) rfl rfl hl.1 rfl (Nat.le_of_ble_eq_true rfl) dX8_queuedAt_33 ⟨Nat.le_refl _, Nat.le_refl _⟩ (fun v_ f_ H locs hp hW => ?_)
      obtain ⟨hpv, hpe⟩ := hp
      rw [hpe] at hW
      have hpv : v_ = some (pR ad (kNx S b c y (nP S))) := hpv
      subst hpv
      refine xp_astore (lv' := [(4, pR ad (kNx S b c y (nP S))), (5, .int (iI (i))), (3, .int (iI (p))), (2, .int (iI (c))), (1, .int (iI (b))), (0, .ref (ad 5))]) hx hb dX8_queuedAt_36 hl (by decide) (by simp [pR_cat, cat_i, cat_l, cat_r, cat_n]) (fun ls hl => ?_)
      refine xi_iinc (lv' := [(5, .int (iI (i + 1))), (4, pR ad (kNx S b c y (nP S))), (3, .int (iI (p))), (2, .int (iI (c))), (1, .int (iI (b))), (0, .ref (ad 5))]) hx hb dX8_queuedAt_38 hl (k := 1) rfl (by decide) (by simp [pR_cat, cat_i, cat_l, cat_r, cat_n]) (fun ls hl => ?_)
      refine lv_goto (tgt := 12) hx hb dX8_queuedAt_41 (by decide) ?_
      exact ih_lp_1 (i + 1) (kNx S b c y (nP S)) _ _ _ (by first | omega | (dsimp only; omega)) ⟨⟨⟨by omega, by omega⟩, by rw [show (i + 1).toNat = i.toNat + 1 by omega, kIt, ← hy, if_neg c_4]⟩, hW, lv_sub hl [0, 1, 2, 3, 4, 5] rfl⟩
set_option maxHeartbeats 4000000 in
set_option maxRecDepth 100000 in
theorem c_X1_tell {l : Launch} {D : va_G} {cy : Nat → ClassId} {B0 : Nat} {ad bk : Nat → Nat} {S : ST} {I : Int → Bool} {cX qX : Int → Int64} {G : gF} (b : Int) (k : Int) (hwf : wf S) (hb0 : 0 ≤ b ∧ b ≤ 5) (hk : 0 ≤ k ∧ k ≤ 59) (h44 : S.1 44 b < 60) : gM l yX1_tell vX1_tell 1 23 D cy B0 [.ref (ad 6), .int (iI (b)), .int (iI (k))] (kW cy ad bk S (I, cX, qX) G) (fun r g_ => r = none ∧ g_ = kW cy ad bk (pI (pI S 43 (60 * b + S.1 44 b) k) 44 b (S.1 44 b + 1)) (I, cX, qX) G) 0 0 := by
  refine g_start (cc := cX1_tell) (maxL := 3) (ret := none) (by decide) rfl (Nat.le_of_ble_eq_true rfl) ?_
  intro p_ e_ s_ m_ be_ me_ co_ ls H locs K hr hlk hnm hK hW hl
  obtain ⟨hx, hb, hml, hown, hts⟩ := id K
  have hl : lv_has ls 3 [(0, .ref (ad 6)), (1, .int (iI (b))), (2, .int (iI (k)))] := hl
  have hq44 := wf_44 hwf b
  refine lv_aload_n hx hb dX1_tell_0 rfl (lv_at hl 0 rfl) ?_
  refine g_get (ref := RX1) (T := TX1) (N := 4) (ci := 2) hx hb hts wsC_X1 hown hK hW (100000 + 6) (kW_at rfl) rfl 1 (by decide) (hts _ lC_X1_20) (fun x h => h) (v := .ref (ad 27)) rfl dX1_tell_1 ?_
  refine lv_iload_n hx hb dX1_tell_4 rfl (lv_at hl 1 rfl) ?_
  refine g_callV (i := 100000 + 27) (As := [.int (iI (b))]) (rest := []) K (c_X9_at (i := 100000 + 27) (j := 100000 + (40 + 7)) (b) (kW_at rfl) (kW_at (kC_row (r := 7) (by decide))) (by decide) (by decide) (show 0 ≤ (b) ∧ (b) < ((6 : Nat) : Int) from ⟨by omega, by omega⟩)) (cwV 1 hts gC_X1_29 rfl rfl rfl (by decide +kernel) ⟨Nat.le_of_ble_eq_true rfl, Nat.le_of_ble_eq_true rfl⟩) hK hW (kW_at rfl) rfl rfl hl.1 rfl (Nat.le_of_ble_eq_true rfl) dX1_tell_5 ⟨Nat.le_refl _, Nat.le_refl _⟩ (fun v_ f_ H locs hp hW => ?_)
  obtain ⟨hpv, hpe⟩ := hp
  rw [hpe] at hW
  have hpv : v_ = some (.long (Int64.ofInt (S.1 44 (b)))) := hpv
  subst hpv
  refine lv_ldc2 (v := 60) hx hb hown (hts _ kC_X1_33) dX1_tell_8 ?_
  refine xi_lcmp_ge (tgt := 47) hx hb dX1_tell_11 dX1_tell_12 (by decide) (fun c_1 => ?_) (fun c_1 => ?_)
  · exact absurd (show Int64.ofInt (S.1 44 (b)) < Int64.ofInt 60 from (l_lt ⟨by omega, by omega⟩ ⟨by omega, by omega⟩).mpr (by omega)) c_1
  · refine lv_aload_n hx hb dX1_tell_15 rfl (lv_at hl 0 rfl) ?_
    refine g_get (ref := RX1) (T := TX1) (N := 4) (ci := 2) hx hb hts wsC_X1 hown hK hW (100000 + 6) (kW_at rfl) rfl 0 (by decide) (hts _ lC_X1_14) (fun x h => h) (v := .ref (ad 26)) rfl dX1_tell_16 ?_
    refine lv_iload_n hx hb dX1_tell_19 rfl (lv_at hl 1 rfl) ?_
    refine xi_bipush hx hb dX1_tell_20 (by decide) ?_
    refine xi_imul hx hb dX1_tell_22 ?_
    refine lv_aload_n hx hb dX1_tell_23 rfl (lv_at hl 0 rfl) ?_
    refine g_get (ref := RX1) (T := TX1) (N := 4) (ci := 2) hx hb hts wsC_X1 hown hK hW (100000 + 6) (kW_at rfl) rfl 1 (by decide) (hts _ lC_X1_20) (fun x h => h) (v := .ref (ad 27)) rfl dX1_tell_24 ?_
    refine lv_iload_n hx hb dX1_tell_27 rfl (lv_at hl 1 rfl) ?_
    refine g_callV (i := 100000 + 27) (As := [.int (iI (b))]) (rest := [.int (iI (b * 60)), .ref (ad 26)]) K (c_X9_at (i := 100000 + 27) (j := 100000 + (40 + 7)) (b) (kW_at rfl) (kW_at (kC_row (r := 7) (by decide))) (by decide) (by decide) (show 0 ≤ (b) ∧ (b) < ((6 : Nat) : Int) from ⟨by omega, by omega⟩)) (cwV 1 hts gC_X1_29 rfl rfl rfl (by decide +kernel) ⟨Nat.le_of_ble_eq_true rfl, Nat.le_of_ble_eq_true rfl⟩) hK hW (kW_at rfl) rfl rfl hl.1 rfl (Nat.le_of_ble_eq_true rfl) dX1_tell_28 ⟨Nat.le_refl _, Nat.le_refl _⟩ (fun v_ f_ H locs hp hW => ?_)
    obtain ⟨hpv, hpe⟩ := hp
    rw [hpe] at hW
    have hpv : v_ = some (.long (Int64.ofInt (S.1 44 (b)))) := hpv
    subst hpv
    refine xi_l2i hx hb dX1_tell_31 ?_
    refine xi_iadd hx hb dX1_tell_32 ?_
    refine xi_eq (z' := 60 * b + S.1 44 b) (by omega) ?_
    refine lv_iload_n hx hb dX1_tell_33 rfl (lv_at hl 2 rfl) ?_
    refine xi_i2l hx hb ⟨by omega, by omega⟩ dX1_tell_34 ?_
    refine g_callV (i := 100000 + 26) (As := [.int (iI (60 * b + S.1 44 b)), .long (Int64.ofInt (k))]) (rest := []) K (c_X9_put (i := 100000 + 26) (j := 100000 + (40 + 6)) (60 * b + S.1 44 b) (Int64.ofInt (k)) (kW_at rfl) (kW_at (kC_row (r := 6) (by decide))) (by decide) (by decide) (show 0 ≤ (60 * b + S.1 44 b) ∧ (60 * b + S.1 44 b) < ((360 : Nat) : Int) from ⟨by omega, by omega⟩)) (cwV 2 hts gC_X1_35 rfl rfl rfl (by decide +kernel) ⟨Nat.le_of_ble_eq_true rfl, Nat.le_of_ble_eq_true rfl⟩) hK hW (kW_at rfl) rfl rfl hl.1 rfl (Nat.le_of_ble_eq_true rfl) dX1_tell_35 ⟨Nat.le_refl _, Nat.le_refl _⟩ (fun v_ f_ H locs hp hW => ?_)
    obtain ⟨hpv, hpe⟩ := hp
    rw [hpe.trans (kW_rI (cy := cy) (ad := ad) (bk := bk) (S := S) (X := (I, cX, qX)) (G := G) 6 (by decide) (z := 60 * b + S.1 44 b) (v := k) (by decide))] at hW
    subst hpv
    refine lv_aload_n hx hb dX1_tell_38 rfl (lv_at hl 0 rfl) ?_
    refine g_get (ref := RX1) (T := TX1) (N := 4) (ci := 2) hx hb hts wsC_X1 hown hK hW (100000 + 6) (kW_at rfl) rfl 1 (by decide) (hts _ lC_X1_20) (fun x h => h) (v := .ref (ad 27)) rfl dX1_tell_39 ?_
    refine lv_iload_n hx hb dX1_tell_42 rfl (lv_at hl 1 rfl) ?_
    refine lv_lconst (v := 1) hx hb dX1_tell_43 (by decide) ?_
    refine g_callV (i := 100000 + 27) (As := [.int (iI (b)), .long (1)]) (rest := []) K (c_X9_add (i := 100000 + 27) (j := 100000 + (40 + 7)) (b) (1) (kW_at rfl) (kW_at (kC_row (r := 7) (by decide))) (by decide) (by decide) (show 0 ≤ (b) ∧ (b) < ((6 : Nat) : Int) from ⟨by omega, by omega⟩)) (cwV 2 hts gC_X1_39 rfl rfl rfl (by decide +kernel) ⟨Nat.le_of_ble_eq_true rfl, Nat.le_of_ble_eq_true rfl⟩) hK hW (kW_at rfl) rfl rfl hl.1 rfl (Nat.le_of_ble_eq_true rfl) dX1_tell_44 ⟨Nat.le_refl _, Nat.le_refl _⟩ (fun v_ f_ H locs hp hW => ?_)
    obtain ⟨hpv, hpe⟩ := hp
    rw [hpe.trans (show _ = kW cy ad bk (pI (pI S 43 (60 * b + S.1 44 b) (k)) 44 (b) ((S.1 44 (b)) + 1)) (I, cX, qX) G from by have h7 := kW_rI (cy := cy) (ad := ad) (bk := bk) (S := (pI S 43 (60 * b + S.1 44 b) (k))) (X := (I, cX, qX)) (G := G) 7 (by decide) (z := b) (v := (S.1 44 (b)) + 1) (by decide); rw [Int64.ofInt_add] at h7; exact h7)] at hW
    subst hpv
    exact g_vret hx hb hr hW ⟨rfl, rfl⟩ dX1_tell_47 hlk
set_option maxHeartbeats 4000000 in
set_option maxRecDepth 100000 in
theorem c_X1_takeNext {l : Launch} {D : va_G} {cy : Nat → ClassId} {B0 : Nat} {ad bk : Nat → Nat} {S : ST} {I : Int → Bool} {cX qX : Int → Int64} {G : gF} (b : Int) (hwf : wf S) (hb0 : 0 ≤ b ∧ b ≤ 5) : gM l yX1_takeNext vX1_takeNext 1 24 D cy B0 [.ref (ad 6), .int (iI (b))] (kW cy ad bk S (I, cX, qX) G) (fun r g_ => r = some (.int (iI (if S.1 29 b < S.1 44 b then S.1 43 (60 * b + S.1 29 b) else -1))) ∧ g_ = kW cy ad bk (if S.1 29 b < S.1 44 b then pI (pI S 29 b (S.1 29 b + 1)) 30 b (if S.1 29 b + 1 < S.1 30 b then S.1 30 b else S.1 29 b + 1) else S) (I, cX, qX) G) 0 0 := by
  refine g_start (cc := cX1_takeNext) (maxL := 3) (ret := (some .int)) (by decide) rfl (Nat.le_of_ble_eq_true rfl) ?_
  intro p_ e_ s_ m_ be_ me_ co_ ls H locs K hr hlk hnm hK hW hl
  obtain ⟨hx, hb, hml, hown, hts⟩ := id K
  have hl : lv_has ls 3 [(0, .ref (ad 6)), (1, .int (iI (b)))] := hl
  have hq44 := wf_44 hwf b
  have hq29 := wf_29 hwf b
  have hq30 := wf_30 hwf b
  refine lv_aload_n hx hb dX1_takeNext_0 rfl (lv_at hl 0 rfl) ?_
  refine g_get (ref := RX1) (T := TX1) (N := 4) (ci := 2) hx hb hts wsC_X1 hown hK hW (100000 + 6) (kW_at rfl) rfl 2 (by decide) (hts _ lC_X1_23) (fun x h => h) (v := .ref (ad 28)) rfl dX1_takeNext_1 ?_
  refine lv_iload_n hx hb dX1_takeNext_4 rfl (lv_at hl 1 rfl) ?_
  refine g_callV (i := 100000 + 28) (As := [.int (iI (b))]) (rest := []) K (c_X9_at (i := 100000 + 28) (j := 100000 + (40 + 8)) (b) (kW_at rfl) (kW_at (kC_row (r := 8) (by decide))) (by decide) (by decide) (show 0 ≤ (b) ∧ (b) < ((6 : Nat) : Int) from ⟨by omega, by omega⟩)) (cwV 1 hts gC_X1_29 rfl rfl rfl (by decide +kernel) ⟨Nat.le_of_ble_eq_true rfl, Nat.le_of_ble_eq_true rfl⟩) hK hW (kW_at rfl) rfl rfl hl.1 rfl (Nat.le_of_ble_eq_true rfl) dX1_takeNext_5 ⟨Nat.le_refl _, Nat.le_refl _⟩ (fun v_ f_ H locs hp hW => ?_)
  obtain ⟨hpv, hpe⟩ := hp
  rw [hpe] at hW
  have hpv : v_ = some (.long (Int64.ofInt (S.1 29 (b)))) := hpv
  subst hpv
  refine xi_l2i hx hb dX1_takeNext_8 ?_
  refine lv_istore_n (lv' := [(2, .int (iI (S.1 29 (b)))), (0, .ref (ad 6)), (1, .int (iI (b)))]) hx hb dX1_takeNext_9 rfl hl (by decide) rfl (fun ls hl => ?_)
  refine lv_iload_n hx hb dX1_takeNext_10 rfl (lv_at hl 0 rfl) ?_
  refine xi_i2l hx hb ⟨by omega, by omega⟩ dX1_takeNext_11 ?_
  refine lv_aload_n hx hb dX1_takeNext_12 rfl (lv_at hl 1 rfl) ?_
  refine g_get (ref := RX1) (T := TX1) (N := 4) (ci := 2) hx hb hts wsC_X1 hown hK hW (100000 + 6) (kW_at rfl) rfl 1 (by decide) (hts _ lC_X1_20) (fun x h => h) (v := .ref (ad 27)) rfl dX1_takeNext_13 ?_
  refine lv_iload_n hx hb dX1_takeNext_16 rfl (lv_at hl 2 rfl) ?_
  refine g_callV (i := 100000 + 27) (As := [.int (iI (b))]) (rest := [.long (Int64.ofInt (S.1 29 (b)))]) K (c_X9_at (i := 100000 + 27) (j := 100000 + (40 + 7)) (b) (kW_at rfl) (kW_at (kC_row (r := 7) (by decide))) (by decide) (by decide) (show 0 ≤ (b) ∧ (b) < ((6 : Nat) : Int) from ⟨by omega, by omega⟩)) (cwV 1 hts gC_X1_29 rfl rfl rfl (by decide +kernel) ⟨Nat.le_of_ble_eq_true rfl, Nat.le_of_ble_eq_true rfl⟩) hK hW (kW_at rfl) rfl rfl hl.1 rfl (Nat.le_of_ble_eq_true rfl) dX1_takeNext_17 ⟨Nat.le_refl _, Nat.le_refl _⟩ (fun v_ f_ H locs hp hW => ?_)
  obtain ⟨hpv, hpe⟩ := hp
  rw [hpe] at hW
  have hpv : v_ = some (.long (Int64.ofInt (S.1 44 (b)))) := hpv
  subst hpv
  refine xi_lcmp_lt (tgt := 26) hx hb dX1_takeNext_20 dX1_takeNext_21 (by decide) (fun c_1 => ?_) (fun c_1 => ?_)
  · have hlt : S.1 29 b < S.1 44 b := (l_lt ⟨by omega, by omega⟩ ⟨by omega, by omega⟩).mp c_1
    refine lv_aload_n hx hb dX1_takeNext_26 rfl (lv_at hl 1 rfl) ?_
    refine g_get (ref := RX1) (T := TX1) (N := 4) (ci := 2) hx hb hts wsC_X1 hown hK hW (100000 + 6) (kW_at rfl) rfl 2 (by decide) (hts _ lC_X1_23) (fun x h => h) (v := .ref (ad 28)) rfl dX1_takeNext_27 ?_
    refine lv_iload_n hx hb dX1_takeNext_30 rfl (lv_at hl 2 rfl) ?_
    refine lv_iload_n hx hb dX1_takeNext_31 rfl (lv_at hl 0 rfl) ?_
    refine xi_iconst hx hb dX1_takeNext_32 ?_
    refine xi_iadd hx hb dX1_takeNext_33 ?_
    refine xi_i2l hx hb ⟨by omega, by omega⟩ dX1_takeNext_34 ?_
    refine g_callV (i := 100000 + 28) (As := [.int (iI (b)), .long (Int64.ofInt ((S.1 29 (b)) + 1))]) (rest := []) K (c_X9_put (i := 100000 + 28) (j := 100000 + (40 + 8)) (b) (Int64.ofInt ((S.1 29 (b)) + 1)) (kW_at rfl) (kW_at (kC_row (r := 8) (by decide))) (by decide) (by decide) (show 0 ≤ (b) ∧ (b) < ((6 : Nat) : Int) from ⟨by omega, by omega⟩)) (cwV 2 hts gC_X1_35 rfl rfl rfl (by decide +kernel) ⟨Nat.le_of_ble_eq_true rfl, Nat.le_of_ble_eq_true rfl⟩) hK hW (kW_at rfl) rfl rfl hl.1 rfl (Nat.le_of_ble_eq_true rfl) dX1_takeNext_35 ⟨Nat.le_refl _, Nat.le_refl _⟩ (fun v_ f_ H locs hp hW => ?_)
    obtain ⟨hpv, hpe⟩ := hp
    rw [hpe.trans (kW_rI (cy := cy) (ad := ad) (bk := bk) (S := S) (X := (I, cX, qX)) (G := G) 8 (by decide) (z := b) (v := (S.1 29 (b)) + 1) (by decide))] at hW
    subst hpv
    refine lv_aload_n hx hb dX1_takeNext_38 rfl (lv_at hl 1 rfl) ?_
    refine g_get (ref := RX1) (T := TX1) (N := 4) (ci := 2) hx hb hts wsC_X1 hown hK hW (100000 + 6) (kW_at rfl) rfl 3 (by decide) (hts _ lC_X1_26) (fun x h => h) (v := .ref (ad 29)) rfl dX1_takeNext_39 ?_
    refine lv_iload_n hx hb dX1_takeNext_42 rfl (lv_at hl 2 rfl) ?_
    refine lv_aload_n hx hb dX1_takeNext_43 rfl (lv_at hl 1 rfl) ?_
    refine g_get (ref := RX1) (T := TX1) (N := 4) (ci := 2) hx hb hts wsC_X1 hown hK hW (100000 + 6) (kW_at rfl) rfl 3 (by decide) (hts _ lC_X1_26) (fun x h => h) (v := .ref (ad 29)) rfl dX1_takeNext_44 ?_
    refine lv_iload_n hx hb dX1_takeNext_47 rfl (lv_at hl 2 rfl) ?_
    refine g_callV (i := 100000 + 29) (As := [.int (iI (b))]) (rest := [.int (iI (b)), .ref (ad 29)]) K (c_X9_at (i := 100000 + 29) (j := 100000 + (40 + 9)) (b) (kW_at rfl) (kW_at (kC_row (r := 9) (by decide))) (by decide) (by decide) (show 0 ≤ (b) ∧ (b) < ((6 : Nat) : Int) from ⟨by omega, by omega⟩)) (cwV 1 hts gC_X1_29 rfl rfl rfl (by decide +kernel) ⟨Nat.le_of_ble_eq_true rfl, Nat.le_of_ble_eq_true rfl⟩) hK hW (kW_at rfl) rfl rfl hl.1 rfl (Nat.le_of_ble_eq_true rfl) dX1_takeNext_48 ⟨Nat.le_refl _, Nat.le_refl _⟩ (fun v_ f_ H locs hp hW => ?_)
    obtain ⟨hpv, hpe⟩ := hp
    rw [hpe] at hW
    have hpv : v_ = some (.long (Int64.ofInt (S.1 30 (b)))) := hpv
    subst hpv
    refine lv_iload_n hx hb dX1_takeNext_51 rfl (lv_at hl 0 rfl) ?_
    refine xi_iconst hx hb dX1_takeNext_52 ?_
    refine xi_iadd hx hb dX1_takeNext_53 ?_
    refine xi_i2l hx hb ⟨by omega, by omega⟩ dX1_takeNext_54 ?_
    refine va_mmax_long hx hb (by rw [hml]; exact hl.1.symm) hown (hts _ (wsC_sub _ wsCw_158)) (hts _ (wsC_sub _ wsCw_159)) (hts _ (wsC_sub _ wsCw_25)) (hts _ (wsC_sub _ wsCw_160)) (Nat.le_of_ble_eq_true rfl) (Nat.le_of_ble_eq_true rfl) (Nat.le_of_ble_eq_true rfl) (Nat.le_of_ble_eq_true rfl) dX1_takeNext_55 ?_
    rw [l_max ⟨by omega, by omega⟩ ⟨by omega, by omega⟩]
    refine g_callV (i := 100000 + 29) (As := [.int (iI (b)), .long (Int64.ofInt (if ((S.1 29 (b)) + 1) < (S.1 30 (b)) then (S.1 30 (b)) else ((S.1 29 (b)) + 1)))]) (rest := []) K (c_X9_put (i := 100000 + 29) (j := 100000 + (40 + 9)) (b) (Int64.ofInt (if ((S.1 29 (b)) + 1) < (S.1 30 (b)) then (S.1 30 (b)) else ((S.1 29 (b)) + 1))) (kW_at rfl) (kW_at (kC_row (r := 9) (by decide))) (by decide) (by decide) (show 0 ≤ (b) ∧ (b) < ((6 : Nat) : Int) from ⟨by omega, by omega⟩)) (cwV 2 hts gC_X1_35 rfl rfl rfl (by decide +kernel) ⟨Nat.le_of_ble_eq_true rfl, Nat.le_of_ble_eq_true rfl⟩) hK hW (kW_at rfl) rfl rfl hl.1 rfl (Nat.le_of_ble_eq_true rfl) dX1_takeNext_58 ⟨Nat.le_refl _, Nat.le_refl _⟩ (fun v_ f_ H locs hp hW => ?_)
    obtain ⟨hpv, hpe⟩ := hp
    rw [hpe.trans (kW_rI (cy := cy) (ad := ad) (bk := bk) (S := (pI S 29 (b) ((S.1 29 (b)) + 1))) (X := (I, cX, qX)) (G := G) 9 (by decide) (z := b) (v := if ((S.1 29 (b)) + 1) < (S.1 30 (b)) then (S.1 30 (b)) else ((S.1 29 (b)) + 1)) (by decide))] at hW
    subst hpv
    refine lv_aload_n hx hb dX1_takeNext_61 rfl (lv_at hl 1 rfl) ?_
    refine g_get (ref := RX1) (T := TX1) (N := 4) (ci := 2) hx hb hts wsC_X1 hown hK hW (100000 + 6) (kW_at rfl) rfl 0 (by decide) (hts _ lC_X1_14) (fun x h => h) (v := .ref (ad 26)) rfl dX1_takeNext_62 ?_
    refine lv_iload_n hx hb dX1_takeNext_65 rfl (lv_at hl 2 rfl) ?_
    refine xi_bipush hx hb dX1_takeNext_66 (by decide) ?_
    refine xi_imul hx hb dX1_takeNext_68 ?_
    refine lv_iload_n hx hb dX1_takeNext_69 rfl (lv_at hl 0 rfl) ?_
    refine xi_iadd hx hb dX1_takeNext_70 ?_
    refine xi_eq (z' := 60 * b + S.1 29 b) (by omega) ?_
    refine g_callV (i := 100000 + 26) (As := [.int (iI (60 * b + S.1 29 b))]) (rest := []) K (c_X9_at (i := 100000 + 26) (j := 100000 + (40 + 6)) (60 * b + S.1 29 b) (kW_at rfl) (kW_at (kC_row (r := 6) (by decide))) (by decide) (by decide) (show 0 ≤ (60 * b + S.1 29 b) ∧ (60 * b + S.1 29 b) < ((360 : Nat) : Int) from ⟨by omega, by omega⟩)) (cwV 1 hts gC_X1_29 rfl rfl rfl (by decide +kernel) ⟨Nat.le_of_ble_eq_true rfl, Nat.le_of_ble_eq_true rfl⟩) hK hW (kW_at rfl) rfl rfl hl.1 rfl (Nat.le_of_ble_eq_true rfl) dX1_takeNext_71 ⟨Nat.le_refl _, Nat.le_refl _⟩ (fun v_ f_ H locs hp hW => ?_)
    obtain ⟨hpv, hpe⟩ := hp
    rw [hpe] at hW
    have hpv : v_ = some (.long (Int64.ofInt (S.1 43 (60 * b + S.1 29 b)))) := hpv
    subst hpv
    refine xi_l2i hx hb dX1_takeNext_74 ?_
    exact g_iret hx hb hr hW ⟨by rw [if_pos hlt], by rw [if_pos hlt]; rfl⟩ dX1_takeNext_75 hlk
  · have hlt : ¬ S.1 29 b < S.1 44 b := fun h => c_1 ((l_lt ⟨by omega, by omega⟩ ⟨by omega, by omega⟩).mpr h)
    refine xi_iconst hx hb dX1_takeNext_24 ?_
    exact g_iret hx hb hr hW ⟨by rw [if_neg hlt], by rw [if_neg hlt]⟩ dX1_takeNext_25 hlk
def kCl (I : Int → Bool) : Int → Bool := fun z => if 0 ≤ z ∧ z < 60 then false else I z
theorem kCl_h (I : Int → Bool) (z : Int) : flG (fun z => Int64.ofInt (bI (I z))) 0 60 z = Int64.ofInt (bI (kCl I z)) := by
  unfold flG kCl
  split <;> rfl
theorem ed4_2 (S : ST) : ∀ n : Nat, (foS ed4 S n).2 4 = flG (S.2 4) 0 n ∧ ∀ f : Nat, f ≠ 4 → (foS ed4 S n).2 f = S.2 f
  | 0 => ⟨(flG_0 _ _).symm, fun _ _ => rfl⟩
  | n + 1 => by
    obtain ⟨h1, h2⟩ := ed4_2 S n
    refine ⟨?_, fun f hf => (pL_f _ _ _ hf).trans (h2 f hf)⟩
    show (pL (foS ed4 S n) 4 n 0).2 4 = _
    rw [pL_fn, h1, show ((n + 1 : Nat) : Int) = (n : Int) + 1 by omega, ← flG_s _ _ (by omega)]
    rfl
theorem kW_f3 {cy : Nat → ClassId} {ad bk : Nat → Nat} {S : ST} {X : CX} {G : gF} : gup (kW cy ad bk S X G) (100000 + (40 + 3)) (ad (40 + 3)) (cR cy (kLen 3) (flG (kRow S X 3) 0 108)) = kW cy ad bk (foS ed4 S 108) X G := by
  have e := ed4_2 S 108
  refine kW_up ?_ (fun j hj => kC_rows (ed4_1 S 108) (e.2 32 (by decide)) (fun a1 a2 => ?_))
  · rw [kC_row (by decide)]
    congr 4
    show (foS ed4 S 108).2 4 = _
    rw [e.1]; rfl
  · have h : j - 40 ≠ 3 := by omega
    unfold kRow
    rw [if_neg h, if_neg h, e.2 1 (by decide), ed4_1]
set_option maxHeartbeats 4000000 in
set_option maxRecDepth 100000 in
theorem c_X2_clear {l : Launch} {D : va_G} {cy : Nat → ClassId} {B0 : Nat} {ad bk : Nat → Nat} {S : ST} {I : Int → Bool} {cX qX : Int → Int64} {G : gF}  (hwf : wf S)  : gM l yX2_clear vX2_clear 1 23 D cy B0 [.ref (ad 7)] (kW cy ad bk S (I, cX, qX) G) (fun r g_ => r = none ∧ g_ = kW cy ad bk S (kCl I, flG cX 0 21, flG qX 0 108) G) 0 0 := by
  refine g_start (cc := cX2_clear) (maxL := 1) (ret := none) (by decide) rfl (Nat.le_of_ble_eq_true rfl) ?_
  intro p_ e_ s_ m_ be_ me_ co_ ls H locs K hr hlk hnm hK hW hl
  obtain ⟨hx, hb, hml, hown, hts⟩ := id K
  have hl : lv_has ls 1 [(0, .ref (ad 7))] := hl
  refine lv_aload_n hx hb dX2_clear_0 rfl (lv_at hl 0 rfl) ?_
  refine g_get (ref := RX2) (T := TX2) (N := 3) (ci := 3) hx hb hts wsC_X2 hown hK hW (100000 + 7) (kW_at rfl) rfl 0 (by decide) (hts _ lC_X2_14) (fun x h => h) (v := .ref (ad 32)) rfl dX2_clear_1 ?_
  refine lv_lconst (v := 0) hx hb dX2_clear_4 (by decide) ?_
  refine g_callV (i := 100000 + 32) (As := [.long (0)]) (rest := []) K (c_X9_fill (i := 100000 + 32) (j := 100000 + (40 + 12)) (0) (kW_at rfl) (kW_at (kC_row (r := 12) (by decide))) (by decide) (by decide)) (cwV 1 hts gC_X2_26 rfl rfl rfl (by decide +kernel) ⟨Nat.le_of_ble_eq_true rfl, Nat.le_of_ble_eq_true rfl⟩) hK hW (kW_at rfl) rfl rfl hl.1 rfl (Nat.le_of_ble_eq_true rfl) dX2_clear_5 ⟨Nat.le_refl _, Nat.le_refl _⟩ (fun v_ f_ H locs hp hW => ?_)
  obtain ⟨hpv, hpe⟩ := hp
  rw [hpe.trans (kW_x12 (cy := cy) (ad := ad) (bk := bk) (S := S) (G := G) (J := (kCl I)) (kCl_h _))] at hW
  subst hpv
  refine lv_aload_n hx hb dX2_clear_8 rfl (lv_at hl 0 rfl) ?_
  refine g_get (ref := RX2) (T := TX2) (N := 3) (ci := 3) hx hb hts wsC_X2 hown hK hW (100000 + 7) (kW_at rfl) rfl 1 (by decide) (hts _ lC_X2_20) (fun x h => h) (v := .ref (ad 33)) rfl dX2_clear_9 ?_
  refine lv_lconst (v := 0) hx hb dX2_clear_12 (by decide) ?_
  refine g_callV (i := 100000 + 33) (As := [.long (0)]) (rest := []) K (c_X9_fill (i := 100000 + 33) (j := 100000 + (40 + 13)) (0) (kW_at rfl) (kW_at (kC_row (r := 13) (by decide))) (by decide) (by decide)) (cwV 1 hts gC_X2_26 rfl rfl rfl (by decide +kernel) ⟨Nat.le_of_ble_eq_true rfl, Nat.le_of_ble_eq_true rfl⟩) hK hW (kW_at rfl) rfl rfl hl.1 rfl (Nat.le_of_ble_eq_true rfl) dX2_clear_13 ⟨Nat.le_refl _, Nat.le_refl _⟩ (fun v_ f_ H locs hp hW => ?_)
  obtain ⟨hpv, hpe⟩ := hp
  rw [hpe.trans (kW_x13 (cy := cy) (ad := ad) (bk := bk) (S := S) (G := G) (g := (flG cX 0 21)))] at hW
  subst hpv
  refine lv_aload_n hx hb dX2_clear_16 rfl (lv_at hl 0 rfl) ?_
  refine g_get (ref := RX2) (T := TX2) (N := 3) (ci := 3) hx hb hts wsC_X2 hown hK hW (100000 + 7) (kW_at rfl) rfl 2 (by decide) (hts _ lC_X2_23) (fun x h => h) (v := .ref (ad 34)) rfl dX2_clear_17 ?_
  refine lv_lconst (v := 0) hx hb dX2_clear_20 (by decide) ?_
  refine g_callV (i := 100000 + 34) (As := [.long (0)]) (rest := []) K (c_X9_fill (i := 100000 + 34) (j := 100000 + (40 + 14)) (0) (kW_at rfl) (kW_at (kC_row (r := 14) (by decide))) (by decide) (by decide)) (cwV 1 hts gC_X2_26 rfl rfl rfl (by decide +kernel) ⟨Nat.le_of_ble_eq_true rfl, Nat.le_of_ble_eq_true rfl⟩) hK hW (kW_at rfl) rfl rfl hl.1 rfl (Nat.le_of_ble_eq_true rfl) dX2_clear_21 ⟨Nat.le_refl _, Nat.le_refl _⟩ (fun v_ f_ H locs hp hW => ?_)
  obtain ⟨hpv, hpe⟩ := hp
  rw [hpe.trans (kW_x14 (cy := cy) (ad := ad) (bk := bk) (S := S) (G := G) (g := (flG qX 0 108)))] at hW
  subst hpv
  exact g_vret hx hb hr hW ⟨rfl, rfl⟩ dX2_clear_24 hlk
set_option maxHeartbeats 4000000 in
set_option maxRecDepth 100000 in
theorem c_X0_beginDay {l : Launch} {D : va_G} {cy : Nat → ClassId} {B0 : Nat} {ad bk : Nat → Nat} {S : ST} {I : Int → Bool} {cX qX : Int → Int64} {G : gF}  (hwf : wf S)  : gM l yX0_beginDay vX0_beginDay 1 23 D cy B0 [.ref (ad 3)] (kW cy ad bk S (I, cX, qX) G) (fun r g_ => r = none ∧ g_ = kW cy ad bk (foS ed4 S 108) (I, cX, qX) G) 0 0 := by
  refine g_start (cc := cX0_beginDay) (maxL := 1) (ret := none) (by decide) rfl (Nat.le_of_ble_eq_true rfl) ?_
  intro p_ e_ s_ m_ be_ me_ co_ ls H locs K hr hlk hnm hK hW hl
  obtain ⟨hx, hb, hml, hown, hts⟩ := id K
  have hl : lv_has ls 1 [(0, .ref (ad 3))] := hl
  refine lv_aload_n hx hb dX0_beginDay_0 rfl (lv_at hl 0 rfl) ?_
  refine g_get (ref := RX0) (T := TX0) (N := 5) (ci := 1) hx hb hts wsC_X0 hown hK hW (100000 + 3) (kW_at rfl) rfl 3 (by decide) (hts _ lC_X0_30) (fun x h => h) (v := .ref (ad 23)) rfl dX0_beginDay_1 ?_
  refine lv_lconst (v := 0) hx hb dX0_beginDay_4 (by decide) ?_
  refine g_callV (i := 100000 + 23) (As := [.long (0)]) (rest := []) K (c_X9_fill (i := 100000 + 23) (j := 100000 + (40 + 3)) (0) (kW_at rfl) (kW_at (kC_row (r := 3) (by decide))) (by decide) (by decide)) (cwV 1 hts gC_X0_38 rfl rfl rfl (by decide +kernel) ⟨Nat.le_of_ble_eq_true rfl, Nat.le_of_ble_eq_true rfl⟩) hK hW (kW_at rfl) rfl rfl hl.1 rfl (Nat.le_of_ble_eq_true rfl) dX0_beginDay_5 ⟨Nat.le_refl _, Nat.le_refl _⟩ (fun v_ f_ H locs hp hW => ?_)
  obtain ⟨hpv, hpe⟩ := hp
  rw [hpe.trans (kW_f3 (cy := cy) (ad := ad) (bk := bk) (S := S) (X := (I, cX, qX)) (G := G))] at hW
  subst hpv
  exact g_vret hx hb hr hW ⟨rfl, rfl⟩ dX0_beginDay_8 hlk
set_option maxHeartbeats 4000000 in
set_option maxRecDepth 100000 in
theorem c_X6_letWaitingEnter {l : Launch} {D : va_G} {cy : Nat → ClassId} {B0 : Nat} {ad bk : Nat → Nat} {S : ST} {I : Int → Bool} {cX qX : Int → Int64} {G : gF}  (hwf : wf S) (ho : okS S) : gM l yX6_letWaitingEnter vX6_letWaitingEnter 5 109 D cy B0 [.ref (ad 1)] (kW cy ad bk S (I, cX, qX) G) (fun r g_ => r = none ∧ g_ = kW cy ad bk (sEd5 S) (I, cX, qX) G) 0 0 := by
  refine g_start (cc := cX6_letWaitingEnter) (maxL := 3) (ret := none) (by decide) rfl (Nat.le_of_ble_eq_true rfl) ?_
  intro p_ e_ s_ m_ be_ me_ co_ ls H locs K hr hlk hnm hK hW hl
  obtain ⟨hx, hb, hml, hown, hts⟩ := id K
  have hl : lv_has ls 3 [(0, .ref (ad 1))] := hl
  have h80 := wf_8 hwf 0
  refine xi_iconst hx hb dX6_letWaitingEnter_0 ?_
  refine lv_istore_n (lv' := [(1, .int (iI (0))), (0, .ref (ad 1))]) hx hb dX6_letWaitingEnter_1 rfl hl (by decide) rfl (fun ls hl => ?_)
  refine lp_w2 (Wg := fun (H : Heap) (locs : List Loc) (ls : Array Slot) => W p_ l e_ { frames := 5, cells := 0, slots := 0, locals := 109 } s_ m_ ([.ref (ad 1)] : List Value).toArray be_ me_ co_ H locs 0 0 (MQ be_ (gQ D B0 (fun (r : Option Value) (g_ : gF) => r = none ∧ g_ = kW cy ad bk (sEd5 S) (I, cX, qX) G)) ([.ref (ad 1)] : List Value).toArray s_ 0 0 (fun q : Nat => B0 ≤ q)) (F0 m_ 2 ls [])) (fun (k : Int) (Z : ST) (H : Heap) (locs : List Loc) (ls : Array Slot) => ((0 ≤ k ∧ k ≤ S.1 8 0) ∧ Z = foS ed5 S k.toNat) ∧ gW D B0 s_ (kW cy ad bk Z (I, cX, qX) G) H locs ∧ lv_has ls 3 [(1, .int (iI (k))), (0, .ref (ad 1))]) (fun (k : Int) (Z : ST) => (60 - k).toNat) (fun k Z H locs ls hI ih_lp_1 => ?_) (0) (S) _ _ _ ⟨⟨⟨by decide, by omega⟩, rfl⟩, hW, lv_sub hl [0, 1] rfl⟩
  obtain ⟨hI_lp_1, hW, hl⟩ := hI
  obtain ⟨hk, hZ⟩ := hI_lp_1
  have hZs := ed5_all ho k.toNat (by omega)
  rw [← hZ] at hZs
  have hZ8 : Z.1 8 0 = S.1 8 0 := by rw [hZs.2.2 8 (by decide)]
  have v0 := wf_0 hZs.1.1 0
  refine lv_iload_n hx hb dX6_letWaitingEnter_2 rfl (lv_at hl 0 rfl) ?_
  refine lv_aload_n hx hb dX6_letWaitingEnter_3 rfl (lv_at hl 1 rfl) ?_
  refine g_get (ref := RX6) (T := TX6) (N := 8) (ci := 7) hx hb hts wsC_X6 hown hK hW (100000 + 1) (kW_at rfl) rfl 2 (by decide) (hts _ lC_X6_28) (fun x h => h) (v := .ref (ad 5)) rfl dX6_letWaitingEnter_4 ?_
  refine g_callV (i := 100000 + 5) (As := []) (rest := [.int (iI (k))]) K (c_X8_count  (hZs.1.1) ) (cwV 0 hts gC_X6_121 rfl rfl rfl (by decide +kernel) ⟨Nat.le_of_ble_eq_true rfl, Nat.le_of_ble_eq_true rfl⟩) hK hW (kW_at rfl) rfl rfl hl.1 rfl (Nat.le_of_ble_eq_true rfl) dX6_letWaitingEnter_7 ⟨Nat.le_refl _, Nat.le_refl _⟩ (fun v_ f_ H locs hp hW => ?_)
  obtain ⟨hpv, hpe⟩ := hp
  rw [hpe] at hW
  have hpv : v_ = some (.int (iI (Z.1 8 0))) := hpv
  subst hpv
  refine xi_icmp_ge (tgt := 78) hx hb ⟨by omega, by omega⟩ ⟨by omega, by omega⟩ dX6_letWaitingEnter_10 (by decide) (fun c_2 => ?_) (fun c_2 => ?_)
  · exact g_vret hx hb hr hW ⟨rfl, by rw [hZ, show k.toNat = nP S by unfold nP; omega]; rfl⟩ dX6_letWaitingEnter_78 hlk
  · refine lv_aload_n hx hb dX6_letWaitingEnter_13 rfl (lv_at hl 1 rfl) ?_
    refine g_get (ref := RX6) (T := TX6) (N := 8) (ci := 7) hx hb hts wsC_X6 hown hK hW (100000 + 1) (kW_at rfl) rfl 2 (by decide) (hts _ lC_X6_28) (fun x h => h) (v := .ref (ad 5)) rfl dX6_letWaitingEnter_14 ?_
    refine lv_iload_n hx hb dX6_letWaitingEnter_17 rfl (lv_at hl 0 rfl) ?_
    refine g_callV (i := 100000 + 5) (As := [.int (iI (k))]) (rest := []) K (c_X8_find (k) (hZs.1.1) ⟨by omega, by omega⟩) (cwV 1 hts gC_X6_125 rfl rfl rfl (by decide +kernel) ⟨Nat.le_of_ble_eq_true rfl, Nat.le_of_ble_eq_true rfl⟩) hK hW (kW_at rfl) rfl rfl hl.1 rfl (Nat.le_of_ble_eq_true rfl) dX6_letWaitingEnter_18 ⟨Nat.le_refl _, Nat.le_refl _⟩ (fun v_ f_ H locs hp hW => ?_)
    obtain ⟨hpv, hpe⟩ := hp
    rw [hpe] at hW
    have hpv : v_ = some (.ref (ad (1000 + 2 * (k).toNat))) := hpv.trans (by rw [kFind, if_pos (show 0 ≤ (k) ∧ (k) < Z.1 8 0 by omega), pR_r _ (by omega)])
    subst hpv
    refine lv_astore_n (lv' := [(2, .ref (ad (1000 + 2 * (k).toNat))), (1, .int (iI (k))), (0, .ref (ad 1))]) hx hb dX6_letWaitingEnter_21 rfl hl (by decide) rfl (fun ls hl => ?_)
    refine lv_aload_n hx hb dX6_letWaitingEnter_22 rfl (lv_at hl 0 rfl) ?_
    refine lv_ifnull hx hb dX6_letWaitingEnter_23 ?_
    refine lv_aload_n hx hb dX6_letWaitingEnter_26 rfl (lv_at hl 0 rfl) ?_
    refine g_get (ref := RX7) (T := TX7) (N := 9) (ci := 8) hx hb hts wsC_X7 hown hK hW (100000 + (1000 + 2 * (k).toNat)) (kW_at (kC_pay (hZs.1.1) (by omega) (show (k) < Z.1 8 0 from by omega))) rfl 2 (by decide) (hts _ lC_X6_115) (fun x h => h) (v := .int (iI (Z.1 18 (k)))) rfl dX6_letWaitingEnter_27 ?_
    have w_3 := wf_18 hZs.1.1 (k)
    refine xi_if_ne (tgt := 72) hx hb ⟨by omega, by omega⟩ dX6_letWaitingEnter_30 (by decide) (fun c_4 => ?_) (fun c_4 => ?_)
    · refine xi_iinc (lv' := [(1, .int (iI (k + 1))), (2, .ref (ad (1000 + 2 * (k).toNat))), (0, .ref (ad 1))]) hx hb dX6_letWaitingEnter_72 hl (k := 1) rfl (by decide) rfl (fun ls hl => ?_)
      refine lv_goto (tgt := 2) hx hb dX6_letWaitingEnter_75 (by decide) ?_
      have hlc : (decide (Z.1 18 k = 0) && decide (Z.1 16 k ≤ Z.1 0 0) && sOpen Z (Z.1 11 k) (Z.1 0 0)) = false := by simp only [c_4, decide_true, decide_false, Bool.true_and, Bool.and_true, Bool.false_and, Bool.and_false, Bool.true_or, Bool.or_true, Bool.false_or, Bool.or_false, Bool.not_true, Bool.not_false, eq_self]
      have hls : ed5 k Z = Z := by rw [ed5, hlc]; rfl
      have hW : gW D B0 s_ (kW cy ad bk (ed5 k Z) (I, cX, qX) G) H locs := by rw [hls]; exact hW
      exact ih_lp_1 (k + 1) (ed5 k Z) _ _ _ (by first | omega | (dsimp only; omega)) ⟨⟨⟨by omega, by omega⟩, by rw [show (k + 1).toNat = k.toNat + 1 by omega, foS_s, show ((k.toNat : Nat) : Int) = k by omega, ← hZ]⟩, hW, lv_sub hl [0, 2] rfl⟩
    · refine lv_aload_n hx hb dX6_letWaitingEnter_33 rfl (lv_at hl 0 rfl) ?_
      refine g_get (ref := RX7) (T := TX7) (N := 9) (ci := 8) hx hb hts wsC_X7 hown hK hW (100000 + (1000 + 2 * (k).toNat)) (kW_at (kC_pay (hZs.1.1) (by omega) (show (k) < Z.1 8 0 from by omega))) rfl 1 (by decide) (hts _ lC_X6_101) (fun x h => h) (v := .ref (ad (1001 + 2 * (k).toNat))) rfl dX6_letWaitingEnter_34 ?_
      refine g_get (ref := RX10) (T := TX10) (N := 9) (ci := 11) hx hb hts wsC_X10 hown hK hW (100000 + (1001 + 2 * (k).toNat)) (kW_at (kC_trm (hZs.1.1) (by omega) (show (k) < Z.1 8 0 from by omega))) rfl 7 (by decide) (hts _ lC_X6_62) (fun x h => h) (v := .int (iI (Z.1 16 (k)))) rfl dX6_letWaitingEnter_37 ?_
      have w_5 := wf_16 hZs.1.1 (k)
      refine lv_aload_n hx hb dX6_letWaitingEnter_40 rfl (lv_at hl 2 rfl) ?_
      refine g_get (ref := RX6) (T := TX6) (N := 8) (ci := 7) hx hb hts wsC_X6 hown hK hW (100000 + 1) (kW_at rfl) rfl 0 (by decide) (hts _ lC_X6_12) (fun x h => h) (v := .ref (ad 2)) rfl dX6_letWaitingEnter_41 ?_
      refine g_get (ref := RX4) (T := TX4) (N := 2) (ci := 5) hx hb hts wsC_X4 hown hK hW (100000 + 2) (kW_at rfl) rfl 0 (by decide) (hts _ lC_X6_68) (fun x h => h) (v := .int (iI (Z.1 0 (0)))) rfl dX6_letWaitingEnter_44 ?_
      have w_6 := wf_0 hZs.1.1 (0)
      refine xi_icmp_gt (tgt := 72) hx hb ⟨by omega, by omega⟩ ⟨by omega, by omega⟩ dX6_letWaitingEnter_47 (by decide) (fun c_7 => ?_) (fun c_7 => ?_)
      · refine xi_iinc (lv' := [(1, .int (iI (k + 1))), (2, .ref (ad (1000 + 2 * (k).toNat))), (0, .ref (ad 1))]) hx hb dX6_letWaitingEnter_72 hl (k := 1) rfl (by decide) rfl (fun ls hl => ?_)
        refine lv_goto (tgt := 2) hx hb dX6_letWaitingEnter_75 (by decide) ?_
        have hlc : (decide (Z.1 18 k = 0) && decide (Z.1 16 k ≤ Z.1 0 0) && sOpen Z (Z.1 11 k) (Z.1 0 0)) = false := by simp only [c_4, c_7, Int.not_le.mpr c_7, decide_true, decide_false, Bool.true_and, Bool.and_true, Bool.false_and, Bool.and_false, Bool.true_or, Bool.or_true, Bool.false_or, Bool.or_false, Bool.not_true, Bool.not_false, eq_self]
        have hls : ed5 k Z = Z := by rw [ed5, hlc]; rfl
        have hW : gW D B0 s_ (kW cy ad bk (ed5 k Z) (I, cX, qX) G) H locs := by rw [hls]; exact hW
        exact ih_lp_1 (k + 1) (ed5 k Z) _ _ _ (by first | omega | (dsimp only; omega)) ⟨⟨⟨by omega, by omega⟩, by rw [show (k + 1).toNat = k.toNat + 1 by omega, foS_s, show ((k.toNat : Nat) : Int) = k by omega, ← hZ]⟩, hW, lv_sub hl [0, 2] rfl⟩
      · refine lv_aload_n hx hb dX6_letWaitingEnter_50 rfl (lv_at hl 2 rfl) ?_
        refine g_get (ref := RX6) (T := TX6) (N := 8) (ci := 7) hx hb hts wsC_X6 hown hK hW (100000 + 1) (kW_at rfl) rfl 0 (by decide) (hts _ lC_X6_12) (fun x h => h) (v := .ref (ad 2)) rfl dX6_letWaitingEnter_51 ?_
        refine lv_aload_n hx hb dX6_letWaitingEnter_54 rfl (lv_at hl 0 rfl) ?_
        refine g_get (ref := RX7) (T := TX7) (N := 9) (ci := 8) hx hb hts wsC_X7 hown hK hW (100000 + (1000 + 2 * (k).toNat)) (kW_at (kC_pay (hZs.1.1) (by omega) (show (k) < Z.1 8 0 from by omega))) rfl 1 (by decide) (hts _ lC_X6_101) (fun x h => h) (v := .ref (ad (1001 + 2 * (k).toNat))) rfl dX6_letWaitingEnter_55 ?_
        refine g_get (ref := RX10) (T := TX10) (N := 9) (ci := 11) hx hb hts wsC_X10 hown hK hW (100000 + (1001 + 2 * (k).toNat)) (kW_at (kC_trm (hZs.1.1) (by omega) (show (k) < Z.1 8 0 from by omega))) rfl 2 (by decide) (hts _ lC_X6_69) (fun x h => h) (v := .int (iI (Z.1 11 (k)))) rfl dX6_letWaitingEnter_58 ?_
        have w_8 := wf_11 hZs.1.1 (k)
        refine g_callV (i := 100000 + 2) (As := [.int (iI (Z.1 11 (k)))]) (rest := []) K (c_X4_isOpenToday (Z.1 11 (k)) (hZs.1.1) ⟨by omega, by omega⟩) (cwV 1 hts gC_X6_72 rfl rfl rfl (by decide +kernel) ⟨Nat.le_of_ble_eq_true rfl, Nat.le_of_ble_eq_true rfl⟩) hK hW (kW_at rfl) rfl rfl hl.1 rfl (Nat.le_of_ble_eq_true rfl) dX6_letWaitingEnter_61 ⟨Nat.le_refl _, Nat.le_refl _⟩ (fun v_ f_ H locs hp hW => ?_)
        obtain ⟨hpv, hpe⟩ := hp
        rw [hpe] at hW
        have hpv : v_ = some (.int (iI (bI (sOpen Z (Z.1 11 (k)) (Z.1 0 0))))) := hpv
        subst hpv
        refine xi_ifb_eq (tgt := 72) hx hb dX6_letWaitingEnter_64 (by decide) (fun c_9 => ?_) (fun c_9 => ?_)
        · refine xi_iinc (lv' := [(1, .int (iI (k + 1))), (2, .ref (ad (1000 + 2 * (k).toNat))), (0, .ref (ad 1))]) hx hb dX6_letWaitingEnter_72 hl (k := 1) rfl (by decide) rfl (fun ls hl => ?_)
          refine lv_goto (tgt := 2) hx hb dX6_letWaitingEnter_75 (by decide) ?_
          have hlc : (decide (Z.1 18 k = 0) && decide (Z.1 16 k ≤ Z.1 0 0) && sOpen Z (Z.1 11 k) (Z.1 0 0)) = false := by simp only [c_4, c_7, Int.not_lt.mpr c_7, c_9, decide_true, decide_false, Bool.true_and, Bool.and_true, Bool.false_and, Bool.and_false, Bool.true_or, Bool.or_true, Bool.false_or, Bool.or_false, Bool.not_true, Bool.not_false, eq_self]
          have hls : ed5 k Z = Z := by rw [ed5, hlc]; rfl
          have hW : gW D B0 s_ (kW cy ad bk (ed5 k Z) (I, cX, qX) G) H locs := by rw [hls]; exact hW
          exact ih_lp_1 (k + 1) (ed5 k Z) _ _ _ (by first | omega | (dsimp only; omega)) ⟨⟨⟨by omega, by omega⟩, by rw [show (k + 1).toNat = k.toNat + 1 by omega, foS_s, show ((k.toNat : Nat) : Int) = k by omega, ← hZ]⟩, hW, lv_sub hl [0, 2] rfl⟩
        · refine lv_aload_n hx hb dX6_letWaitingEnter_67 rfl (lv_at hl 2 rfl) ?_
          refine lv_aload_n hx hb dX6_letWaitingEnter_68 rfl (lv_at hl 0 rfl) ?_
          refine g_callV (i := 100000 + 1) (As := [.ref (ad (1000 + 2 * (k).toNat))]) (rest := []) K (c_X6_letEnter (k) (hZs.1.1) (by omega) (by omega)) (cwV 1 hts gC_X6_76 rfl rfl rfl (by decide +kernel) ⟨Nat.le_of_ble_eq_true rfl, Nat.le_of_ble_eq_true rfl⟩) hK hW (kW_at rfl) rfl rfl hl.1 rfl (Nat.le_of_ble_eq_true rfl) dX6_letWaitingEnter_69 ⟨Nat.le_refl _, Nat.le_refl _⟩ (fun v_ f_ H locs hp hW => ?_)
          obtain ⟨hpv, hpe⟩ := hp
          rw [hpe] at hW
          subst hpv
          refine xi_iinc (lv' := [(1, .int (iI (k + 1))), (2, .ref (ad (1000 + 2 * (k).toNat))), (0, .ref (ad 1))]) hx hb dX6_letWaitingEnter_72 hl (k := 1) rfl (by decide) rfl (fun ls hl => ?_)
          refine lv_goto (tgt := 2) hx hb dX6_letWaitingEnter_75 (by decide) ?_
          have hlc : (decide (Z.1 18 k = 0) && decide (Z.1 16 k ≤ Z.1 0 0) && sOpen Z (Z.1 11 k) (Z.1 0 0)) = true := by simp only [c_4, c_7, Int.not_lt.mpr c_7, c_9, decide_true, decide_false, Bool.true_and, Bool.and_true, Bool.false_and, Bool.and_false, Bool.true_or, Bool.or_true, Bool.false_or, Bool.or_false, Bool.not_true, Bool.not_false, eq_self]
          have hls : ed5 k Z = sEnter Z k := by rw [ed5, hlc]; rfl
          have hW : gW D B0 s_ (kW cy ad bk (ed5 k Z) (I, cX, qX) G) H locs := by rw [hls]; exact hW
          exact ih_lp_1 (k + 1) (ed5 k Z) _ _ _ (by first | omega | (dsimp only; omega)) ⟨⟨⟨by omega, by omega⟩, by rw [show (k + 1).toNat = k.toNat + 1 by omega, foS_s, show ((k.toNat : Nat) : Int) = k by omega, ← hZ]⟩, hW, lv_sub hl [0, 2] rfl⟩
set_option maxHeartbeats 4000000 in
set_option maxRecDepth 100000 in
theorem c_X6_giveBackWhatMayNotStay {l : Launch} {D : va_G} {cy : Nat → ClassId} {B0 : Nat} {ad bk : Nat → Nat} {S : ST} {I : Int → Bool} {cX qX : Int → Int64} {G : gF}  (hwf : wf S) (ho : okS S) (hlg : lg4 S) (hlr : ∀ k : Int, 0 ≤ k → k < S.1 8 0 → S.1 21 k < S.1 8 0) : gM l yX6_giveBackWhatMayNotStay vX6_giveBackWhatMayNotStay 5 109 D cy B0 [.ref (ad 1)] (kW cy ad bk S (I, cX, qX) G) (fun r g_ => r = none ∧ g_ = kW cy ad bk (sEd2 S) (I, cX, qX) G) 0 0 := by
  refine g_start (cc := cX6_giveBackWhatMayNotStay) (maxL := 3) (ret := none) (by decide) rfl (Nat.le_of_ble_eq_true rfl) ?_
  intro p_ e_ s_ m_ be_ me_ co_ ls H locs K hr hlk hnm hK hW hl
  obtain ⟨hx, hb, hml, hown, hts⟩ := id K
  have hl : lv_has ls 3 [(0, .ref (ad 1))] := hl
  have h80 := wf_8 hwf 0
  refine xi_iconst hx hb dX6_giveBackWhatMayNotStay_0 ?_
  refine lv_istore_n (lv' := [(1, .int (iI (0))), (0, .ref (ad 1))]) hx hb dX6_giveBackWhatMayNotStay_1 rfl hl (by decide) rfl (fun ls hl => ?_)
  refine lp_w2 (Wg := fun (H : Heap) (locs : List Loc) (ls : Array Slot) => W p_ l e_ { frames := 5, cells := 0, slots := 0, locals := 109 } s_ m_ ([.ref (ad 1)] : List Value).toArray be_ me_ co_ H locs 0 0 (MQ be_ (gQ D B0 (fun (r : Option Value) (g_ : gF) => r = none ∧ g_ = kW cy ad bk (sEd2 S) (I, cX, qX) G)) ([.ref (ad 1)] : List Value).toArray s_ 0 0 (fun q : Nat => B0 ≤ q)) (F0 m_ 2 ls [])) (fun (k : Int) (T : ST) (H : Heap) (locs : List Loc) (ls : Array Slot) => ((0 ≤ k ∧ k ≤ S.1 8 0) ∧ T = foS ed2 S k.toNat) ∧ gW D B0 s_ (kW cy ad bk T (I, cX, qX) G) H locs ∧ lv_has ls 3 [(1, .int (iI (k))), (0, .ref (ad 1))]) (fun (k : Int) (T : ST) => (60 - k).toNat) (fun k T H locs ls hI ih_lp_1 => ?_) (0) (S) _ _ _ ⟨⟨⟨by decide, by omega⟩, rfl⟩, hW, lv_sub hl [0, 1] rfl⟩
  obtain ⟨hI_lp_1, hW, hl⟩ := hI
  obtain ⟨hk, hT⟩ := hI_lp_1
  have hTs := ed2_all ho hlg k.toNat (by unfold nP; omega)
  rw [← hT] at hTs
  have hT8 : T.1 8 0 = S.1 8 0 := by rw [hTs.2.2.2 8 (by decide)]
  have v0 := wf_0 hTs.1.1 0
  refine lv_iload_n hx hb dX6_giveBackWhatMayNotStay_2 rfl (lv_at hl 0 rfl) ?_
  refine lv_aload_n hx hb dX6_giveBackWhatMayNotStay_3 rfl (lv_at hl 1 rfl) ?_
  refine g_get (ref := RX6) (T := TX6) (N := 8) (ci := 7) hx hb hts wsC_X6 hown hK hW (100000 + 1) (kW_at rfl) rfl 2 (by decide) (hts _ lC_X6_28) (fun x h => h) (v := .ref (ad 5)) rfl dX6_giveBackWhatMayNotStay_4 ?_
  refine g_callV (i := 100000 + 5) (As := []) (rest := [.int (iI (k))]) K (c_X8_count  (hTs.1.1) ) (cwV 0 hts gC_X6_121 rfl rfl rfl (by decide +kernel) ⟨Nat.le_of_ble_eq_true rfl, Nat.le_of_ble_eq_true rfl⟩) hK hW (kW_at rfl) rfl rfl hl.1 rfl (Nat.le_of_ble_eq_true rfl) dX6_giveBackWhatMayNotStay_7 ⟨Nat.le_refl _, Nat.le_refl _⟩ (fun v_ f_ H locs hp hW => ?_)
  obtain ⟨hpv, hpe⟩ := hp
  rw [hpe] at hW
  have hpv : v_ = some (.int (iI (T.1 8 0))) := hpv
  subst hpv
  refine xi_icmp_ge (tgt := 80) hx hb ⟨by omega, by omega⟩ ⟨by omega, by omega⟩ dX6_giveBackWhatMayNotStay_10 (by decide) (fun c_2 => ?_) (fun c_2 => ?_)
  · exact g_vret hx hb hr hW ⟨rfl, by rw [hT, show k.toNat = nP S by unfold nP; omega]; rfl⟩ dX6_giveBackWhatMayNotStay_80 hlk
  · refine lv_aload_n hx hb dX6_giveBackWhatMayNotStay_13 rfl (lv_at hl 1 rfl) ?_
    refine g_get (ref := RX6) (T := TX6) (N := 8) (ci := 7) hx hb hts wsC_X6 hown hK hW (100000 + 1) (kW_at rfl) rfl 2 (by decide) (hts _ lC_X6_28) (fun x h => h) (v := .ref (ad 5)) rfl dX6_giveBackWhatMayNotStay_14 ?_
    refine lv_iload_n hx hb dX6_giveBackWhatMayNotStay_17 rfl (lv_at hl 0 rfl) ?_
    refine g_callV (i := 100000 + 5) (As := [.int (iI (k))]) (rest := []) K (c_X8_find (k) (hTs.1.1) ⟨by omega, by omega⟩) (cwV 1 hts gC_X6_125 rfl rfl rfl (by decide +kernel) ⟨Nat.le_of_ble_eq_true rfl, Nat.le_of_ble_eq_true rfl⟩) hK hW (kW_at rfl) rfl rfl hl.1 rfl (Nat.le_of_ble_eq_true rfl) dX6_giveBackWhatMayNotStay_18 ⟨Nat.le_refl _, Nat.le_refl _⟩ (fun v_ f_ H locs hp hW => ?_)
    obtain ⟨hpv, hpe⟩ := hp
    rw [hpe] at hW
    have hpv : v_ = some (.ref (ad (1000 + 2 * (k).toNat))) := hpv.trans (by rw [kFind, if_pos (show 0 ≤ (k) ∧ (k) < T.1 8 0 by omega), pR_r _ (by omega)])
    subst hpv
    refine lv_astore_n (lv' := [(2, .ref (ad (1000 + 2 * (k).toNat))), (1, .int (iI (k))), (0, .ref (ad 1))]) hx hb dX6_giveBackWhatMayNotStay_21 rfl hl (by decide) rfl (fun ls hl => ?_)
    refine lv_aload_n hx hb dX6_giveBackWhatMayNotStay_22 rfl (lv_at hl 0 rfl) ?_
    refine lv_ifnull hx hb dX6_giveBackWhatMayNotStay_23 ?_
    refine lv_aload_n hx hb dX6_giveBackWhatMayNotStay_26 rfl (lv_at hl 0 rfl) ?_
    refine g_get (ref := RX7) (T := TX7) (N := 9) (ci := 8) hx hb hts wsC_X7 hown hK hW (100000 + (1000 + 2 * (k).toNat)) (kW_at (kC_pay (hTs.1.1) (by omega) (show (k) < T.1 8 0 from by omega))) rfl 1 (by decide) (hts _ lC_X6_101) (fun x h => h) (v := .ref (ad (1001 + 2 * (k).toNat))) rfl dX6_giveBackWhatMayNotStay_27 ?_
    refine g_get (ref := RX10) (T := TX10) (N := 9) (ci := 11) hx hb hts wsC_X10 hown hK hW (100000 + (1001 + 2 * (k).toNat)) (kW_at (kC_trm (hTs.1.1) (by omega) (show (k) < T.1 8 0 from by omega))) rfl 8 (by decide) (hts _ lC_X6_213) (fun x h => h) (v := .int (iI (T.1 17 (k)))) rfl dX6_giveBackWhatMayNotStay_30 ?_
    have w_3 := wf_17 hTs.1.1 (k)
    refine xi_if_ne (tgt := 74) hx hb ⟨by omega, by omega⟩ dX6_giveBackWhatMayNotStay_33 (by decide) (fun c_4 => ?_) (fun c_4 => ?_)
    · refine xi_iinc (lv' := [(1, .int (iI (k + 1))), (2, .ref (ad (1000 + 2 * (k).toNat))), (0, .ref (ad 1))]) hx hb dX6_giveBackWhatMayNotStay_74 hl (k := 1) rfl (by decide) rfl (fun ls hl => ?_)
      refine lv_goto (tgt := 2) hx hb dX6_giveBackWhatMayNotStay_77 (by decide) ?_
      have hlc : ((decide (T.1 18 k = 2) || decide (T.1 18 k = 3)) && decide (T.1 17 k = 0) && sOpen T (T.1 11 k) (T.1 0 0)) = false := by simp only [c_4, decide_true, decide_false, Bool.true_and, Bool.and_true, Bool.false_and, Bool.and_false, Bool.true_or, Bool.or_true, Bool.false_or, Bool.or_false, Bool.not_true, Bool.not_false, eq_self]
      have hls : ed2 k T = T := by rw [ed2, hlc]; rfl
      have hW : gW D B0 s_ (kW cy ad bk (ed2 k T) (I, cX, qX) G) H locs := by rw [hls]; exact hW
      exact ih_lp_1 (k + 1) (ed2 k T) _ _ _ (by first | omega | (dsimp only; omega)) ⟨⟨⟨by omega, by omega⟩, by rw [show (k + 1).toNat = k.toNat + 1 by omega, foS_s, show ((k.toNat : Nat) : Int) = k by omega, ← hT]⟩, hW, lv_sub hl [0, 2] rfl⟩
    · refine lv_aload_n hx hb dX6_giveBackWhatMayNotStay_36 rfl (lv_at hl 0 rfl) ?_
      refine g_get (ref := RX7) (T := TX7) (N := 9) (ci := 8) hx hb hts wsC_X7 hown hK hW (100000 + (1000 + 2 * (k).toNat)) (kW_at (kC_pay (hTs.1.1) (by omega) (show (k) < T.1 8 0 from by omega))) rfl 2 (by decide) (hts _ lC_X6_115) (fun x h => h) (v := .int (iI (T.1 18 (k)))) rfl dX6_giveBackWhatMayNotStay_37 ?_
      have w_5 := wf_18 hTs.1.1 (k)
      refine xi_iconst hx hb dX6_giveBackWhatMayNotStay_40 ?_
      refine xi_icmp_eq (tgt := 52) hx hb ⟨by omega, by omega⟩ ⟨by omega, by omega⟩ dX6_giveBackWhatMayNotStay_41 (by decide) (fun c_6 => ?_) (fun c_6 => ?_)
      · refine lv_aload_n hx hb dX6_giveBackWhatMayNotStay_52 rfl (lv_at hl 2 rfl) ?_
        refine g_get (ref := RX6) (T := TX6) (N := 8) (ci := 7) hx hb hts wsC_X6 hown hK hW (100000 + 1) (kW_at rfl) rfl 0 (by decide) (hts _ lC_X6_12) (fun x h => h) (v := .ref (ad 2)) rfl dX6_giveBackWhatMayNotStay_53 ?_
        refine lv_aload_n hx hb dX6_giveBackWhatMayNotStay_56 rfl (lv_at hl 0 rfl) ?_
        refine g_get (ref := RX7) (T := TX7) (N := 9) (ci := 8) hx hb hts wsC_X7 hown hK hW (100000 + (1000 + 2 * (k).toNat)) (kW_at (kC_pay (hTs.1.1) (by omega) (show (k) < T.1 8 0 from by omega))) rfl 1 (by decide) (hts _ lC_X6_101) (fun x h => h) (v := .ref (ad (1001 + 2 * (k).toNat))) rfl dX6_giveBackWhatMayNotStay_57 ?_
        refine g_get (ref := RX10) (T := TX10) (N := 9) (ci := 11) hx hb hts wsC_X10 hown hK hW (100000 + (1001 + 2 * (k).toNat)) (kW_at (kC_trm (hTs.1.1) (by omega) (show (k) < T.1 8 0 from by omega))) rfl 2 (by decide) (hts _ lC_X6_69) (fun x h => h) (v := .int (iI (T.1 11 (k)))) rfl dX6_giveBackWhatMayNotStay_60 ?_
        have w_7 := wf_11 hTs.1.1 (k)
        refine g_callV (i := 100000 + 2) (As := [.int (iI (T.1 11 (k)))]) (rest := []) K (c_X4_isOpenToday (T.1 11 (k)) (hTs.1.1) ⟨by omega, by omega⟩) (cwV 1 hts gC_X6_72 rfl rfl rfl (by decide +kernel) ⟨Nat.le_of_ble_eq_true rfl, Nat.le_of_ble_eq_true rfl⟩) hK hW (kW_at rfl) rfl rfl hl.1 rfl (Nat.le_of_ble_eq_true rfl) dX6_giveBackWhatMayNotStay_63 ⟨Nat.le_refl _, Nat.le_refl _⟩ (fun v_ f_ H locs hp hW => ?_)
        obtain ⟨hpv, hpe⟩ := hp
        rw [hpe] at hW
        have hpv : v_ = some (.int (iI (bI (sOpen T (T.1 11 (k)) (T.1 0 0))))) := hpv
        subst hpv
        refine xi_ifb_eq (tgt := 74) hx hb dX6_giveBackWhatMayNotStay_66 (by decide) (fun c_8 => ?_) (fun c_8 => ?_)
        · refine xi_iinc (lv' := [(1, .int (iI (k + 1))), (2, .ref (ad (1000 + 2 * (k).toNat))), (0, .ref (ad 1))]) hx hb dX6_giveBackWhatMayNotStay_74 hl (k := 1) rfl (by decide) rfl (fun ls hl => ?_)
          refine lv_goto (tgt := 2) hx hb dX6_giveBackWhatMayNotStay_77 (by decide) ?_
          have hlc : ((decide (T.1 18 k = 2) || decide (T.1 18 k = 3)) && decide (T.1 17 k = 0) && sOpen T (T.1 11 k) (T.1 0 0)) = false := by simp only [c_4, c_6, c_8, decide_true, decide_false, Bool.true_and, Bool.and_true, Bool.false_and, Bool.and_false, Bool.true_or, Bool.or_true, Bool.false_or, Bool.or_false, Bool.not_true, Bool.not_false, eq_self]
          have hls : ed2 k T = T := by rw [ed2, hlc]; rfl
          have hW : gW D B0 s_ (kW cy ad bk (ed2 k T) (I, cX, qX) G) H locs := by rw [hls]; exact hW
          exact ih_lp_1 (k + 1) (ed2 k T) _ _ _ (by first | omega | (dsimp only; omega)) ⟨⟨⟨by omega, by omega⟩, by rw [show (k + 1).toNat = k.toNat + 1 by omega, foS_s, show ((k.toNat : Nat) : Int) = k by omega, ← hT]⟩, hW, lv_sub hl [0, 2] rfl⟩
        · have hsk : T.1 18 k = 2 ∨ T.1 18 k = 3 := Or.inl c_6
          have hgb : T.1 21 k ≠ -1 → 0 ≤ T.1 21 k ∧ T.1 21 k < T.1 8 0 ∧ T.1 18 (T.1 21 k) ≠ 4 := fun hn => by
            have w1 := wf_21 hTs.1.1 k
            have w2 := hlr k (by omega) (by omega)
            rw [← hTs.2.2.2 21 (by decide)] at w2
            rcases hTs.2.1 k (by omega) (by omega) with h | h
            · exact absurd h hn
            · exact ⟨by omega, by omega, fun h4 => by have := h.1.mpr h4; omega⟩
          refine lv_aload_n hx hb dX6_giveBackWhatMayNotStay_69 rfl (lv_at hl 0 rfl) ?_
          refine g_callV (i := 100000 + (1000 + 2 * (k).toNat)) (As := []) (rest := []) K (c_X7_giveBack (k) (hTs.1.1) (by omega) (by omega) (fun hn => hgb hn)) (cwV 0 hts gC_X6_216 rfl rfl rfl (by decide +kernel) ⟨Nat.le_of_ble_eq_true rfl, Nat.le_of_ble_eq_true rfl⟩) hK hW (kW_at (kC_pay (hTs.1.1) (by omega) (show (k) < T.1 8 0 from by omega))) rfl rfl hl.1 rfl (Nat.le_of_ble_eq_true rfl) dX6_giveBackWhatMayNotStay_70 ⟨Nat.le_refl _, Nat.le_refl _⟩ (fun v_ f_ H locs hp hW => ?_)
          obtain ⟨hpv, hpe⟩ := hp
          rw [hpe] at hW
          have hpv : v_ = some (.int (iI (sRetN T (k)))) := hpv
          subst hpv
          refine lv_pop hx hb dX6_giveBackWhatMayNotStay_73 rfl ?_
          refine xi_iinc (lv' := [(1, .int (iI (k + 1))), (2, .ref (ad (1000 + 2 * (k).toNat))), (0, .ref (ad 1))]) hx hb dX6_giveBackWhatMayNotStay_74 hl (k := 1) rfl (by decide) rfl (fun ls hl => ?_)
          refine lv_goto (tgt := 2) hx hb dX6_giveBackWhatMayNotStay_77 (by decide) ?_
          have hlc : ((decide (T.1 18 k = 2) || decide (T.1 18 k = 3)) && decide (T.1 17 k = 0) && sOpen T (T.1 11 k) (T.1 0 0)) = true := by simp only [c_4, c_6, c_8, decide_true, decide_false, Bool.true_and, Bool.and_true, Bool.false_and, Bool.and_false, Bool.true_or, Bool.or_true, Bool.false_or, Bool.or_false, Bool.not_true, Bool.not_false, eq_self]
          have hls : ed2 k T = sRet T k := by rw [ed2, hlc]; rfl
          have hW : gW D B0 s_ (kW cy ad bk (ed2 k T) (I, cX, qX) G) H locs := by rw [hls]; exact hW
          exact ih_lp_1 (k + 1) (ed2 k T) _ _ _ (by first | omega | (dsimp only; omega)) ⟨⟨⟨by omega, by omega⟩, by rw [show (k + 1).toNat = k.toNat + 1 by omega, foS_s, show ((k.toNat : Nat) : Int) = k by omega, ← hT]⟩, hW, lv_sub hl [0, 2] rfl⟩
      · refine lv_aload_n hx hb dX6_giveBackWhatMayNotStay_44 rfl (lv_at hl 0 rfl) ?_
        refine g_get (ref := RX7) (T := TX7) (N := 9) (ci := 8) hx hb hts wsC_X7 hown hK hW (100000 + (1000 + 2 * (k).toNat)) (kW_at (kC_pay (hTs.1.1) (by omega) (show (k) < T.1 8 0 from by omega))) rfl 2 (by decide) (hts _ lC_X6_115) (fun x h => h) (v := .int (iI (T.1 18 (k)))) rfl dX6_giveBackWhatMayNotStay_45 ?_
        have w_9 := wf_18 hTs.1.1 (k)
        refine xi_iconst hx hb dX6_giveBackWhatMayNotStay_48 ?_
        refine xi_icmp_ne (tgt := 74) hx hb ⟨by omega, by omega⟩ ⟨by omega, by omega⟩ dX6_giveBackWhatMayNotStay_49 (by decide) (fun c_10 => ?_) (fun c_10 => ?_)
        · refine xi_iinc (lv' := [(1, .int (iI (k + 1))), (2, .ref (ad (1000 + 2 * (k).toNat))), (0, .ref (ad 1))]) hx hb dX6_giveBackWhatMayNotStay_74 hl (k := 1) rfl (by decide) rfl (fun ls hl => ?_)
          refine lv_goto (tgt := 2) hx hb dX6_giveBackWhatMayNotStay_77 (by decide) ?_
          have hlc : ((decide (T.1 18 k = 2) || decide (T.1 18 k = 3)) && decide (T.1 17 k = 0) && sOpen T (T.1 11 k) (T.1 0 0)) = false := by simp only [c_4, c_6, c_10, decide_true, decide_false, Bool.true_and, Bool.and_true, Bool.false_and, Bool.and_false, Bool.true_or, Bool.or_true, Bool.false_or, Bool.or_false, Bool.not_true, Bool.not_false, eq_self]
          have hls : ed2 k T = T := by rw [ed2, hlc]; rfl
          have hW : gW D B0 s_ (kW cy ad bk (ed2 k T) (I, cX, qX) G) H locs := by rw [hls]; exact hW
          exact ih_lp_1 (k + 1) (ed2 k T) _ _ _ (by first | omega | (dsimp only; omega)) ⟨⟨⟨by omega, by omega⟩, by rw [show (k + 1).toNat = k.toNat + 1 by omega, foS_s, show ((k.toNat : Nat) : Int) = k by omega, ← hT]⟩, hW, lv_sub hl [0, 2] rfl⟩
        · refine lv_aload_n hx hb dX6_giveBackWhatMayNotStay_52 rfl (lv_at hl 2 rfl) ?_
          refine g_get (ref := RX6) (T := TX6) (N := 8) (ci := 7) hx hb hts wsC_X6 hown hK hW (100000 + 1) (kW_at rfl) rfl 0 (by decide) (hts _ lC_X6_12) (fun x h => h) (v := .ref (ad 2)) rfl dX6_giveBackWhatMayNotStay_53 ?_
          refine lv_aload_n hx hb dX6_giveBackWhatMayNotStay_56 rfl (lv_at hl 0 rfl) ?_
          refine g_get (ref := RX7) (T := TX7) (N := 9) (ci := 8) hx hb hts wsC_X7 hown hK hW (100000 + (1000 + 2 * (k).toNat)) (kW_at (kC_pay (hTs.1.1) (by omega) (show (k) < T.1 8 0 from by omega))) rfl 1 (by decide) (hts _ lC_X6_101) (fun x h => h) (v := .ref (ad (1001 + 2 * (k).toNat))) rfl dX6_giveBackWhatMayNotStay_57 ?_
          refine g_get (ref := RX10) (T := TX10) (N := 9) (ci := 11) hx hb hts wsC_X10 hown hK hW (100000 + (1001 + 2 * (k).toNat)) (kW_at (kC_trm (hTs.1.1) (by omega) (show (k) < T.1 8 0 from by omega))) rfl 2 (by decide) (hts _ lC_X6_69) (fun x h => h) (v := .int (iI (T.1 11 (k)))) rfl dX6_giveBackWhatMayNotStay_60 ?_
          have w_11 := wf_11 hTs.1.1 (k)
          refine g_callV (i := 100000 + 2) (As := [.int (iI (T.1 11 (k)))]) (rest := []) K (c_X4_isOpenToday (T.1 11 (k)) (hTs.1.1) ⟨by omega, by omega⟩) (cwV 1 hts gC_X6_72 rfl rfl rfl (by decide +kernel) ⟨Nat.le_of_ble_eq_true rfl, Nat.le_of_ble_eq_true rfl⟩) hK hW (kW_at rfl) rfl rfl hl.1 rfl (Nat.le_of_ble_eq_true rfl) dX6_giveBackWhatMayNotStay_63 ⟨Nat.le_refl _, Nat.le_refl _⟩ (fun v_ f_ H locs hp hW => ?_)
          obtain ⟨hpv, hpe⟩ := hp
          rw [hpe] at hW
          have hpv : v_ = some (.int (iI (bI (sOpen T (T.1 11 (k)) (T.1 0 0))))) := hpv
          subst hpv
          refine xi_ifb_eq (tgt := 74) hx hb dX6_giveBackWhatMayNotStay_66 (by decide) (fun c_12 => ?_) (fun c_12 => ?_)
          · refine xi_iinc (lv' := [(1, .int (iI (k + 1))), (2, .ref (ad (1000 + 2 * (k).toNat))), (0, .ref (ad 1))]) hx hb dX6_giveBackWhatMayNotStay_74 hl (k := 1) rfl (by decide) rfl (fun ls hl => ?_)
            refine lv_goto (tgt := 2) hx hb dX6_giveBackWhatMayNotStay_77 (by decide) ?_
            have hlc : ((decide (T.1 18 k = 2) || decide (T.1 18 k = 3)) && decide (T.1 17 k = 0) && sOpen T (T.1 11 k) (T.1 0 0)) = false := by simp only [c_4, c_6, c_10, c_12, decide_true, decide_false, Bool.true_and, Bool.and_true, Bool.false_and, Bool.and_false, Bool.true_or, Bool.or_true, Bool.false_or, Bool.or_false, Bool.not_true, Bool.not_false, eq_self]
            have hls : ed2 k T = T := by rw [ed2, hlc]; rfl
            have hW : gW D B0 s_ (kW cy ad bk (ed2 k T) (I, cX, qX) G) H locs := by rw [hls]; exact hW
            exact ih_lp_1 (k + 1) (ed2 k T) _ _ _ (by first | omega | (dsimp only; omega)) ⟨⟨⟨by omega, by omega⟩, by rw [show (k + 1).toNat = k.toNat + 1 by omega, foS_s, show ((k.toNat : Nat) : Int) = k by omega, ← hT]⟩, hW, lv_sub hl [0, 2] rfl⟩
          · have hsk : T.1 18 k = 2 ∨ T.1 18 k = 3 := Or.inr (by omega)
            have hgb : T.1 21 k ≠ -1 → 0 ≤ T.1 21 k ∧ T.1 21 k < T.1 8 0 ∧ T.1 18 (T.1 21 k) ≠ 4 := fun hn => by
              have w1 := wf_21 hTs.1.1 k
              have w2 := hlr k (by omega) (by omega)
              rw [← hTs.2.2.2 21 (by decide)] at w2
              rcases hTs.2.1 k (by omega) (by omega) with h | h
              · exact absurd h hn
              · exact ⟨by omega, by omega, fun h4 => by have := h.1.mpr h4; omega⟩
            refine lv_aload_n hx hb dX6_giveBackWhatMayNotStay_69 rfl (lv_at hl 0 rfl) ?_
            refine g_callV (i := 100000 + (1000 + 2 * (k).toNat)) (As := []) (rest := []) K (c_X7_giveBack (k) (hTs.1.1) (by omega) (by omega) (fun hn => hgb hn)) (cwV 0 hts gC_X6_216 rfl rfl rfl (by decide +kernel) ⟨Nat.le_of_ble_eq_true rfl, Nat.le_of_ble_eq_true rfl⟩) hK hW (kW_at (kC_pay (hTs.1.1) (by omega) (show (k) < T.1 8 0 from by omega))) rfl rfl hl.1 rfl (Nat.le_of_ble_eq_true rfl) dX6_giveBackWhatMayNotStay_70 ⟨Nat.le_refl _, Nat.le_refl _⟩ (fun v_ f_ H locs hp hW => ?_)
            obtain ⟨hpv, hpe⟩ := hp
            rw [hpe] at hW
            have hpv : v_ = some (.int (iI (sRetN T (k)))) := hpv
            subst hpv
            refine lv_pop hx hb dX6_giveBackWhatMayNotStay_73 rfl ?_
            refine xi_iinc (lv' := [(1, .int (iI (k + 1))), (2, .ref (ad (1000 + 2 * (k).toNat))), (0, .ref (ad 1))]) hx hb dX6_giveBackWhatMayNotStay_74 hl (k := 1) rfl (by decide) rfl (fun ls hl => ?_)
            refine lv_goto (tgt := 2) hx hb dX6_giveBackWhatMayNotStay_77 (by decide) ?_
            have hlc : ((decide (T.1 18 k = 2) || decide (T.1 18 k = 3)) && decide (T.1 17 k = 0) && sOpen T (T.1 11 k) (T.1 0 0)) = true := by simp only [c_4, c_6, c_10, c_12, decide_true, decide_false, Bool.true_and, Bool.and_true, Bool.false_and, Bool.and_false, Bool.true_or, Bool.or_true, Bool.false_or, Bool.or_false, Bool.not_true, Bool.not_false, eq_self]
            have hls : ed2 k T = sRet T k := by rw [ed2, hlc]; rfl
            have hW : gW D B0 s_ (kW cy ad bk (ed2 k T) (I, cX, qX) G) H locs := by rw [hls]; exact hW
            exact ih_lp_1 (k + 1) (ed2 k T) _ _ _ (by first | omega | (dsimp only; omega)) ⟨⟨⟨by omega, by omega⟩, by rw [show (k + 1).toNat = k.toNat + 1 by omega, foS_s, show ((k.toNat : Nat) : Int) = k by omega, ← hT]⟩, hW, lv_sub hl [0, 2] rfl⟩
