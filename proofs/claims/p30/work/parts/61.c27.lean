theorem mo_0 {I : Int → Bool} {S : ST} {s c : Int} (hw : wf S) : ∀ j : Int, 0 ≤ j → j < nP S → kCl I j = (decide (j < 0) && mostC S s c j) := by
  intro j j0 j1
  have h := nP_le hw
  unfold kCl
  rw [if_pos (by omega), decide_eq_false (by omega)]
  rfl
theorem mo_f {J M : Int → Bool} {n : Nat} {k : Int} (h : ∀ j : Int, 0 ≤ j → j < n → J j = (decide (j < k) && M j)) (hM : M k = false) : ∀ j : Int, 0 ≤ j → j < n → J j = (decide (j < k + 1) && M j) := by
  intro j j0 j1
  rw [h j j0 j1]
  by_cases e : j = k
  · rw [e, hM, Bool.and_false, Bool.and_false]
  · have : decide (j < k + 1) = decide (j < k) := decide_eq_decide.mpr (by omega)
    rw [this]
theorem mo_t {J M : Int → Bool} {n : Nat} {k : Int} (h : ∀ j : Int, 0 ≤ j → j < n → J j = (decide (j < k) && M j)) (hM : M k = true) : ∀ j : Int, 0 ≤ j → j < n → iup J k true j = (decide (j < k + 1) && M j) := by
  intro j j0 j1
  by_cases e : j = k
  · rw [e, iup_s, hM, decide_eq_true (by omega)]; rfl
  · rw [iup_n _ _ e, h j j0 j1]
    have : decide (j < k + 1) = decide (j < k) := decide_eq_decide.mpr (by omega)
    rw [this]
theorem mo_k {J M : Int → Bool} {n : Nat} {k : Int} (h : ∀ j : Int, 0 ≤ j → j < n → J j = (decide (j < k) && M j)) (k0 : 0 ≤ k) (k1 : k < n) : J k = false := by
  rw [h k k0 k1, decide_eq_false (by omega)]; rfl
theorem mo_end {J : Int → Bool} {S : ST} {s c k : Int} (h : ∀ j : Int, 0 ≤ j → j < nP S → J j = (decide (j < k) && mostC S s c j)) (hw : wf S) (hk : S.1 8 0 ≤ k) : ∀ j : Int, 0 ≤ j → j < nP S → J j = mostI S s c j := by
  intro j j0 j1
  have h8 := wf_8 hw 0
  rw [h j j0 j1]
  unfold mostI
  unfold nP at j1
  rw [decide_eq_true (by omega), decide_eq_true (by omega)]
theorem ko_1 {S : ST} {J : Int → Bool} {a q : Int → Int64} {c u : Int} {bq : Bool} (hw : wf S) (hc : 0 ≤ c ∧ c ≤ 2) (h : bInv S J a q) (hu : u = kOut S J a q c bq) (h1 : u = -1) : fit S J c = true := by
  rw [kOut_eq hw hc h] at hu
  cases hf : fit S J c with
  | true => rfl
  | false =>
    rw [hf, if_neg (by decide)] at hu
    have := outO_in (q := bq) hw hc hf
    rw [← hu] at this
    have := this.1
    omega
theorem ko_2 {S : ST} {J : Int → Bool} {a q : Int → Int64} {c u : Int} {bq : Bool} (hw : wf S) (hc : 0 ≤ c ∧ c ≤ 2) (h : bInv S J a q) (hu : u = kOut S J a q c bq) (h1 : u ≠ -1) : fit S J c = false ∧ u = outO S J c bq ∧ 0 ≤ u ∧ u < S.1 8 0 ∧ u < nP S ∧ J u = true := by
  have h8 := wf_8 hw 0
  rw [kOut_eq hw hc h] at hu
  cases hf : fit S J c with
  | true => rw [hf, if_pos rfl] at hu; exact absurd hu h1
  | false =>
    rw [hf, if_neg (by decide)] at hu
    have h2 := outO_in (q := bq) hw hc hf
    rw [← hu] at h2
    have h3 := h2.2.1
    unfold nP at h3
    exact ⟨rfl, hu, h2.1, by omega, h2.2.1, h2.2.2⟩
theorem most_end {S : ST} {J : Int → Bool} {s c : Int} {bq : Bool} (h : ∀ j : Int, 0 ≤ j → j < nP S → J j = sRed S (mostI S s c) c bq j) : sMost S s c bq = (cnB J (nP S), sSets S J (nP S)) := by
  unfold sMost sRedS
  rw [cnB_congr h, sSets_congr h]
theorem most_4 {S : ST} {J : Int → Bool} {s c : Int} {bq : Bool} (hs : s = 2 ∨ s = 3) (h : ∀ j : Int, 0 ≤ j → j < nP S → J j = sRed S (mostI S s c) c bq j) : ∀ j : Int, 0 ≤ j → j < nP S → J j = true → S.1 18 j ≠ 4 := by
  intro j j0 j1 hj
  rw [h j j0 j1] at hj
  have := sRedN_sub _ _ _ hj
  simp only [mostI, mostC, Bool.and_eq_true, decide_eq_true_eq] at this
  omega
set_option maxHeartbeats 4000000 in
set_option maxRecDepth 100000 in
theorem c_X6_settleMost {l : Launch} {D : va_G} {cy : Nat → ClassId} {B0 : Nat} {ad bk : Nat → Nat} {S : ST} {I : Int → Bool} {cX qX : Int → Int64} {G : gF} (c : Int) (s : Int) (hwf : wf S) (hc : 0 ≤ c ∧ c ≤ 2) (hs : s = 2 ∨ s = 3) (ho : okS S) (he : S.1 31 0 + cNF S < 20000) (hG0 : G 50001 = none) (hE0 : nE S = 0 → bk 10 = D.1 21) : gM l yX6_settleMost vX6_settleMost 11 248 D cy B0 [.ref (ad 1), .int (iI (c)), .int (iI (s))] (kW cy ad bk S (I, cX, qX) G) (fun r g_ => ∃ (bk2 : Nat → Nat) (I2 : Int → Bool) (c2 q2 : Int → Int64), r = some (.int (iI (sMost S s c (decide (s = 2))).1)) ∧ (nE (sMost S s c (decide (s = 2))).2 = 0 → bk2 10 = D.1 21) ∧ g_ = kW cy ad bk2 (sMost S s c (decide (s = 2))).2 (I2, c2, q2) G) (kTc (nE (sMost S s c (decide (s = 2))).2) - kTc (nE S)) (kTs (nE (sMost S s c (decide (s = 2))).2) - kTs (nE S)) := by
  refine g_start (cc := cX6_settleMost) (maxL := 5) (ret := (some .int)) (by decide) rfl (Nat.le_of_ble_eq_true rfl) ?_
  intro p_ e_ s_ m_ be_ me_ co_ ls H locs K hr hlk hnm hK hW hl
  obtain ⟨hx, hb, hml, hown, hts⟩ := id K
  have hl : lv_has ls 5 [(0, .ref (ad 1)), (1, .int (iI (c))), (2, .int (iI (s)))] := hl
  have h80 := wf_8 hwf 0
  refine lv_aload_n hx hb dX6_settleMost_0 rfl (lv_at hl 0 rfl) ?_
  refine g_get (ref := RX6) (T := TX6) (N := 8) (ci := 7) hx hb hts wsC_X6 hown hK hW (100000 + 1) (kW_at rfl) rfl 7 (by decide) (hts _ lC_X6_54) (fun x h => h) (v := .ref (ad 7)) rfl dX6_settleMost_1 ?_
  refine g_callV (i := 100000 + 7) (As := []) (rest := []) K (c_X2_clear  hwf ) (cwV 0 hts gC_X6_141 rfl rfl rfl (by decide +kernel) ⟨Nat.le_of_ble_eq_true rfl, Nat.le_of_ble_eq_true rfl⟩) hK hW (kW_at rfl) rfl rfl hl.1 rfl (Nat.le_of_ble_eq_true rfl) dX6_settleMost_4 ⟨Nat.zero_le _, Nat.zero_le _⟩ (fun v_ f_ H locs hp hW => ?_)
  obtain ⟨hpv, hpe⟩ := hp
  rw [hpe] at hW
  subst hpv
  refine xi_iconst hx hb dX6_settleMost_7 ?_
  refine lv_istore_n (lv' := [(3, .int (iI (0))), (0, .ref (ad 1)), (1, .int (iI (c))), (2, .int (iI (s)))]) hx hb dX6_settleMost_8 rfl hl (by decide) rfl (fun ls hl => ?_)
  refine lp_w4 (Wg := fun (H : Heap) (locs : List Loc) (ls : Array Slot) => W p_ l e_ { frames := 11, cells := kTc (nE (sMost S s c (decide (s = 2))).2) - kTc (nE S), slots := kTs (nE (sMost S s c (decide (s = 2))).2) - kTs (nE S), locals := 248 } s_ m_ ([.ref (ad 1), .int (iI (c)), .int (iI (s))] : List Value).toArray be_ me_ co_ H locs 0 0 (MQ be_ (gQ D B0 (fun (r : Option Value) (g_ : gF) => ∃ (bk2 : Nat → Nat) (I2 : Int → Bool) (c2 q2 : Int → Int64), r = some (.int (iI (sMost S s c (decide (s = 2))).1)) ∧ (nE (sMost S s c (decide (s = 2))).2 = 0 → bk2 10 = D.1 21) ∧ g_ = kW cy ad bk2 (sMost S s c (decide (s = 2))).2 (I2, c2, q2) G)) ([.ref (ad 1), .int (iI (c)), .int (iI (s))] : List Value).toArray s_ (kTc (nE (sMost S s c (decide (s = 2))).2) - kTc (nE S)) (kTs (nE (sMost S s c (decide (s = 2))).2) - kTs (nE S)) (fun q : Nat => B0 ≤ q)) (F0 m_ 9 ls [])) (fun (k : Int) (J : Int → Bool) (a : Int → Int64) (q : Int → Int64) (H : Heap) (locs : List Loc) (ls : Array Slot) => ((0 ≤ k ∧ k ≤ S.1 8 0) ∧ bInv S J a q ∧ ∀ j : Int, 0 ≤ j → j < nP S → J j = (decide (j < k) && mostC S s c j)) ∧ gW D B0 s_ (kW cy ad bk S (J, a, q) G) H locs ∧ lv_has ls 5 [(3, .int (iI (k))), (2, .int (iI (s))), (1, .int (iI (c))), (0, .ref (ad 1))]) (fun (k : Int) (J : Int → Bool) (a : Int → Int64) (q : Int → Int64) => (60 - k).toNat) (fun k J a q H locs ls hI ih_lp_1 => ?_) (0) ((kCl I)) ((flG cX 0 21)) ((flG qX 0 108)) _ _ _ ⟨⟨⟨by decide, by omega⟩, bInv_0 hwf _ _ _, mo_0 hwf⟩, hW, lv_sub hl [0, 3, 2, 1] rfl⟩
  obtain ⟨hI_lp_1, hW, hl⟩ := hI
  obtain ⟨hk, hbv, hJ⟩ := hI_lp_1
  refine lv_iload_n hx hb dX6_settleMost_9 rfl (lv_at hl 0 rfl) ?_
  refine lv_aload_n hx hb dX6_settleMost_10 rfl (lv_at hl 3 rfl) ?_
  refine g_get (ref := RX6) (T := TX6) (N := 8) (ci := 7) hx hb hts wsC_X6 hown hK hW (100000 + 1) (kW_at rfl) rfl 2 (by decide) (hts _ lC_X6_28) (fun x h => h) (v := .ref (ad 5)) rfl dX6_settleMost_11 ?_
  refine g_callV (i := 100000 + 5) (As := []) (rest := [.int (iI (k))]) K (c_X8_count  hwf ) (cwV 0 hts gC_X6_121 rfl rfl rfl (by decide +kernel) ⟨Nat.le_of_ble_eq_true rfl, Nat.le_of_ble_eq_true rfl⟩) hK hW (kW_at rfl) rfl rfl hl.1 rfl (Nat.le_of_ble_eq_true rfl) dX6_settleMost_14 ⟨Nat.zero_le _, Nat.zero_le _⟩ (fun v_ f_ H locs hp hW => ?_)
  obtain ⟨hpv, hpe⟩ := hp
  rw [hpe] at hW
  have hpv : v_ = some (.int (iI (S.1 8 0))) := hpv
  subst hpv
  refine xi_icmp_ge (tgt := 77) hx hb ⟨by omega, by omega⟩ ⟨by omega, by omega⟩ dX6_settleMost_17 (by decide) (fun c_2 => ?_) (fun c_2 => ?_)
  · refine xi_iconst hx hb dX6_settleMost_77 ?_
    refine lv_istore_n (lv' := [(3, .int (iI (0))), (2, .int (iI (s))), (1, .int (iI (c))), (0, .ref (ad 1))]) hx hb dX6_settleMost_78 rfl hl (by decide) rfl (fun ls hl => ?_)
    refine lp_w4 (Wg := fun (H : Heap) (locs : List Loc) (ls : Array Slot) => W p_ l e_ { frames := 11, cells := kTc (nE (sMost S s c (decide (s = 2))).2) - kTc (nE S), slots := kTs (nE (sMost S s c (decide (s = 2))).2) - kTs (nE S), locals := 248 } s_ m_ ([.ref (ad 1), .int (iI (c)), .int (iI (s))] : List Value).toArray be_ me_ co_ H locs 0 0 (MQ be_ (gQ D B0 (fun (r : Option Value) (g_ : gF) => ∃ (bk2 : Nat → Nat) (I2 : Int → Bool) (c2 q2 : Int → Int64), r = some (.int (iI (sMost S s c (decide (s = 2))).1)) ∧ (nE (sMost S s c (decide (s = 2))).2 = 0 → bk2 10 = D.1 21) ∧ g_ = kW cy ad bk2 (sMost S s c (decide (s = 2))).2 (I2, c2, q2) G)) ([.ref (ad 1), .int (iI (c)), .int (iI (s))] : List Value).toArray s_ (kTc (nE (sMost S s c (decide (s = 2))).2) - kTc (nE S)) (kTs (nE (sMost S s c (decide (s = 2))).2) - kTs (nE S)) (fun q : Nat => B0 ≤ q)) (F0 m_ 79 ls [])) (fun (i : Int) (J2 : Int → Bool) (a2 : Int → Int64) (q2 : Int → Int64) (H : Heap) (locs : List Loc) (ls : Array Slot) => ((0 ≤ i ∧ i ≤ 60) ∧ bInv S J2 a2 q2 ∧ cnB J2 (nP S) ≤ 60 - i ∧ ∀ j : Int, 0 ≤ j → j < nP S → sRedN S c (decide (s = 2)) (61 - i).toNat J2 j = sRed S (mostI S s c) c (decide (s = 2)) j) ∧ gW D B0 s_ (kW cy ad bk S (J2, a2, q2) G) H locs ∧ lv_has ls 5 [(3, .int (iI (i))), (2, .int (iI (s))), (1, .int (iI (c))), (0, .ref (ad 1))]) (fun (i : Int) (J2 : Int → Bool) (a2 : Int → Int64) (q2 : Int → Int64) => (60 - i).toNat) (fun i J2 a2 q2 H locs ls hI ih_lp_3 => ?_) (0) (J) (a) (q) _ _ _ ⟨⟨⟨by decide, by decide⟩, hbv, by have := cnB_le J (nP S); have := nP_le hwf; omega, fun j j0 j1 => sRedN_congr hc 61 _ _ (mo_end hJ hwf (by omega)) j j0 j1⟩, hW, lv_sub hl [0, 1, 2, 3] rfl⟩
    obtain ⟨hI_lp_3, hW, hl⟩ := hI
    obtain ⟨hi, hbv2, hcn, hR⟩ := hI_lp_3
    refine lv_iload_n hx hb dX6_settleMost_79 rfl (lv_at hl 0 rfl) ?_
    refine xi_bipush hx hb dX6_settleMost_80 (by decide) ?_
    refine xi_icmp_ge (tgt := 125) hx hb ⟨by omega, by omega⟩ ⟨by omega, by omega⟩ dX6_settleMost_82 (by decide) (fun c_4 => ?_) (fun c_4 => ?_)
    · have hce := cnB_0 (I := J2) (n := nP S) (by omega)
      have hR2 : ∀ j : Int, 0 ≤ j → j < nP S → J2 j = sRed S (mostI S s c) c (decide (s = 2)) j := fun j j0 j1 => by rw [← hR j j0 j1, sRedN_fit (fit_none hwf hc (fun m m0 m1 hm => by rw [hce m m0 m1] at hm; cases hm))]
      have hms := most_end hR2
      refine lv_aload_n hx hb dX6_settleMost_125 rfl (lv_at hl 3 rfl) ?_
      refine g_callV (i := 100000 + 1) (As := []) (rest := []) K (c_X6_settleBatch (I := J2) hwf ho (most_4 hs hR2) he hG0 hE0) (cwV 0 hts gC_X6_155 rfl rfl rfl (by decide +kernel) ⟨Nat.le_of_ble_eq_true rfl, Nat.le_of_ble_eq_true rfl⟩) hK hW (kW_at rfl) rfl rfl hl.1 rfl (Nat.le_of_ble_eq_true rfl) dX6_settleMost_126 ⟨by dsimp only; rw [hms]; exact Nat.le_of_eq (Nat.zero_add _), by dsimp only; rw [hms]; exact Nat.le_of_eq (Nat.zero_add _)⟩ (fun v_ f_ H locs hp hW => ?_)
      obtain ⟨hpv, bk2, hb2, hpe⟩ := hp
      rw [hpe] at hW
      subst hpv
      exact W.widen (by rw [hms]; exact Nat.le_of_eq (Nat.zero_add _)) (by rw [hms]; exact Nat.le_of_eq (Nat.zero_add _)) (g_iret hx hb hr hW ⟨bk2, J2, a2, q2, by rw [hms], fun h => hb2 (by rw [hms] at h; exact h), by rw [hms]⟩ dX6_settleMost_129 hlk)
    · refine lv_aload_n hx hb dX6_settleMost_85 rfl (lv_at hl 3 rfl) ?_
      refine lv_iload_n hx hb dX6_settleMost_86 rfl (lv_at hl 2 rfl) ?_
      refine lv_iload_n hx hb dX6_settleMost_87 rfl (lv_at hl 1 rfl) ?_
      refine xi_iconst hx hb dX6_settleMost_88 ?_
      have j_5 : ∀ (zJ : Bool) (H : Heap) (locs : List Loc), zJ = (decide (s = 2)) → gW D B0 s_ (kW cy ad bk S (J2, a2, q2) G) H locs → W p_ l e_ { frames := 11, cells := kTc (nE (sMost S s c (decide (s = 2))).2) - kTc (nE S), slots := kTs (nE (sMost S s c (decide (s = 2))).2) - kTs (nE S), locals := 248 } s_ m_ ([.ref (ad 1), .int (iI (c)), .int (iI (s))] : List Value).toArray be_ me_ co_ H locs 0 0 (MQ be_ (gQ D B0 (fun (r : Option Value) (g_ : gF) => ∃ (bk2 : Nat → Nat) (I2 : Int → Bool) (c2 q2 : Int → Int64), r = some (.int (iI (sMost S s c (decide (s = 2))).1)) ∧ (nE (sMost S s c (decide (s = 2))).2 = 0 → bk2 10 = D.1 21) ∧ g_ = kW cy ad bk2 (sMost S s c (decide (s = 2))).2 (I2, c2, q2) G)) ([.ref (ad 1), .int (iI (c)), .int (iI (s))] : List Value).toArray s_ (kTc (nE (sMost S s c (decide (s = 2))).2) - kTc (nE S)) (kTs (nE (sMost S s c (decide (s = 2))).2) - kTs (nE S)) (fun q : Nat => B0 ≤ q)) (F0 m_ 97 ls [.int (iI (bI (zJ))), .int (iI (c)), .ref (ad 1)]) := by
        intro zJ H locs hzJ hW
        subst hzJ
        refine g_callV (i := 100000 + 1) (As := [.int (iI (c)), .int (iI (bI (decide (s = 2))))]) (rest := []) K (c_X6_nextToTakeOut (c) (decide (s = 2)) hwf ⟨by omega, by omega⟩) (cwV 2 hts gC_X6_162 rfl rfl rfl (by decide +kernel) ⟨Nat.le_of_ble_eq_true rfl, Nat.le_of_ble_eq_true rfl⟩) hK hW (kW_at rfl) rfl rfl hl.1 rfl (Nat.le_of_ble_eq_true rfl) dX6_settleMost_97 ⟨Nat.zero_le _, Nat.zero_le _⟩ (fun v_ f_ H locs hp hW => ?_)
        obtain ⟨hpv, hpe⟩ := hp
        rw [hpe] at hW
        have hpv : v_ = some (pR ad (kOut S J2 a2 q2 c (decide (s = 2)))) := hpv
        subst hpv
        obtain ⟨u, hu⟩ : ∃ x : Int, x = kOut S J2 a2 q2 c (decide (s = 2)) := ⟨_, rfl⟩
        rw [← hu]
        refine xp_astore (lv' := [(4, pR ad (u)), (3, .int (iI (i))), (2, .int (iI (s))), (1, .int (iI (c))), (0, .ref (ad 1))]) hx hb dX6_settleMost_100 hl (by decide) (by simp [pR_cat, cat_i, cat_l, cat_r, cat_n]) (fun ls hl => ?_)
        refine xp_aload hx hb dX6_settleMost_102 (lv_at hl 0 rfl) ?_
        refine xp_ifnonnull (tgt := 110) hx hb dX6_settleMost_104 (by decide) (fun c_6 => ?_) (fun c_6 => ?_)
        · obtain ⟨hu0, hu1, hu2, hu3, hu4, hu5⟩ := ko_2 hwf hc hbv2 hu c_6
          refine lv_aload_n hx hb dX6_settleMost_110 rfl (lv_at hl 4 rfl) ?_
          refine g_get (ref := RX6) (T := TX6) (N := 8) (ci := 7) hx hb hts wsC_X6 hown hK hW (100000 + 1) (kW_at rfl) rfl 7 (by decide) (hts _ lC_X6_54) (fun x h => h) (v := .ref (ad 7)) rfl dX6_settleMost_111 ?_
          refine xp_aload hx hb dX6_settleMost_114 (lv_at hl 0 rfl) ?_
          refine xp_ref (k := u) (by omega) ?_
          refine g_callV (i := 100000 + 7) (As := [.ref (ad (1000 + 2 * (u).toNat))]) (rest := []) K (c_X2_drop (u) hwf hu2 hu3) (cwV 1 hts gC_X6_166 rfl rfl rfl (by decide +kernel) ⟨Nat.le_of_ble_eq_true rfl, Nat.le_of_ble_eq_true rfl⟩) hK hW (kW_at rfl) rfl rfl hl.1 rfl (Nat.le_of_ble_eq_true rfl) dX6_settleMost_116 ⟨Nat.zero_le _, Nat.zero_le _⟩ (fun v_ f_ H locs hp hW => ?_)
          obtain ⟨hpv, hpe⟩ := hp
          rw [hpe] at hW
          subst hpv
          refine xi_iinc (lv' := [(3, .int (iI (i + 1))), (4, pR ad (u)), (2, .int (iI (s))), (1, .int (iI (c))), (0, .ref (ad 1))]) hx hb dX6_settleMost_119 hl (k := 1) rfl (by decide) (by simp [pR_cat, cat_i, cat_l, cat_r, cat_n]) (fun ls hl => ?_)
          refine lv_goto (tgt := 79) hx hb dX6_settleMost_122 (by decide) ?_
          have hcd := cnB_iup (I := J2) hu2 hu4 hu5
          have hst : ∀ j : Int, 0 ≤ j → j < nP S → sRedN S c (decide (s = 2)) (61 - (i + 1)).toNat (iup J2 u false) j = sRed S (mostI S s c) c (decide (s = 2)) j := fun j j0 j1 => by rw [← hR j j0 j1, show (61 - i).toNat = (61 - (i + 1)).toNat + 1 by omega, sRed_step (J := J2) (q := (decide (s = 2))) (I := J2) hu0, ← hu1]
          exact ih_lp_3 (i + 1) ((iup J2 u false)) ((kC1 S u (Int64.ofInt (-(S.1 12 u))) a2)) ((kQ1 S u (Int64.ofInt (-(S.1 12 u))) q2)) _ _ _ (by first | omega | (dsimp only; omega)) ⟨⟨⟨by omega, by omega⟩, bInv_drop hbv2 hu2 hu4 hu5, by omega, hst⟩, hW, lv_sub hl [0, 2, 3, 4] rfl⟩
        · have hR2 : ∀ j : Int, 0 ≤ j → j < nP S → J2 j = sRed S (mostI S s c) c (decide (s = 2)) j := fun j j0 j1 => by rw [← hR j j0 j1, sRedN_fit (ko_1 hwf hc hbv2 hu c_6)]
          refine lv_goto (tgt := 125) hx hb dX6_settleMost_107 (by decide) ?_
          have hms := most_end hR2
          refine lv_aload_n hx hb dX6_settleMost_125 rfl (lv_at hl 4 rfl) ?_
          refine g_callV (i := 100000 + 1) (As := []) (rest := []) K (c_X6_settleBatch (I := J2) hwf ho (most_4 hs hR2) he hG0 hE0) (cwV 0 hts gC_X6_155 rfl rfl rfl (by decide +kernel) ⟨Nat.le_of_ble_eq_true rfl, Nat.le_of_ble_eq_true rfl⟩) hK hW (kW_at rfl) rfl rfl hl.1 rfl (Nat.le_of_ble_eq_true rfl) dX6_settleMost_126 ⟨by dsimp only; rw [hms]; exact Nat.le_of_eq (Nat.zero_add _), by dsimp only; rw [hms]; exact Nat.le_of_eq (Nat.zero_add _)⟩ (fun v_ f_ H locs hp hW => ?_)
          obtain ⟨hpv, bk2, hb2, hpe⟩ := hp
          rw [hpe] at hW
          subst hpv
          exact W.widen (by rw [hms]; exact Nat.le_of_eq (Nat.zero_add _)) (by rw [hms]; exact Nat.le_of_eq (Nat.zero_add _)) (g_iret hx hb hr hW ⟨bk2, J2, a2, q2, by rw [hms], fun h => hb2 (by rw [hms] at h; exact h), by rw [hms]⟩ dX6_settleMost_129 hlk)
      refine xi_icmp_ne (tgt := 96) hx hb ⟨by omega, by omega⟩ ⟨by omega, by omega⟩ dX6_settleMost_89 (by decide) (fun c_7 => ?_) (fun c_7 => ?_)
      · refine xi_iconst hx hb dX6_settleMost_96 ?_
        exact xi_eq (z' := bI (decide (s = 2))) (bI_f (by simp only [c_2, Int.not_lt.mpr c_2, c_4, Int.not_le.mpr c_4, c_7, decide_true, decide_false, Bool.true_and, Bool.and_true, Bool.false_and, Bool.and_false, Bool.true_or, Bool.or_true, Bool.false_or, Bool.or_false, Bool.not_true, Bool.not_false, eq_self])) (j_5 _ _ _ rfl hW)
      · refine xi_iconst hx hb dX6_settleMost_92 ?_
        refine lv_goto (tgt := 97) hx hb dX6_settleMost_93 (by decide) ?_
        exact xi_eq (z' := bI (decide (s = 2))) (bI_t (by simp only [c_2, Int.not_lt.mpr c_2, c_4, Int.not_le.mpr c_4, c_7, decide_true, decide_false, Bool.true_and, Bool.and_true, Bool.false_and, Bool.and_false, Bool.true_or, Bool.or_true, Bool.false_or, Bool.or_false, Bool.not_true, Bool.not_false, eq_self])) (j_5 _ _ _ rfl hW)
  · refine lv_aload_n hx hb dX6_settleMost_20 rfl (lv_at hl 3 rfl) ?_
    refine g_get (ref := RX6) (T := TX6) (N := 8) (ci := 7) hx hb hts wsC_X6 hown hK hW (100000 + 1) (kW_at rfl) rfl 2 (by decide) (hts _ lC_X6_28) (fun x h => h) (v := .ref (ad 5)) rfl dX6_settleMost_21 ?_
    refine lv_iload_n hx hb dX6_settleMost_24 rfl (lv_at hl 0 rfl) ?_
    refine g_callV (i := 100000 + 5) (As := [.int (iI (k))]) (rest := []) K (c_X8_find (k) hwf ⟨by omega, by omega⟩) (cwV 1 hts gC_X6_125 rfl rfl rfl (by decide +kernel) ⟨Nat.le_of_ble_eq_true rfl, Nat.le_of_ble_eq_true rfl⟩) hK hW (kW_at rfl) rfl rfl hl.1 rfl (Nat.le_of_ble_eq_true rfl) dX6_settleMost_25 ⟨Nat.zero_le _, Nat.zero_le _⟩ (fun v_ f_ H locs hp hW => ?_)
    obtain ⟨hpv, hpe⟩ := hp
    rw [hpe] at hW
    have hpv : v_ = some (.ref (ad (1000 + 2 * (k).toNat))) := hpv.trans (by rw [kFind, if_pos (show 0 ≤ (k) ∧ (k) < S.1 8 0 by omega), pR_r _ (by omega)])
    subst hpv
    refine lv_astore (lv' := [(4, .ref (ad (1000 + 2 * (k).toNat))), (3, .int (iI (k))), (2, .int (iI (s))), (1, .int (iI (c))), (0, .ref (ad 1))]) hx hb dX6_settleMost_28 hl (by decide) rfl (fun ls hl => ?_)
    refine lv_aload hx hb dX6_settleMost_30 (lv_at hl 0 rfl) ?_
    refine lv_ifnull hx hb dX6_settleMost_32 ?_
    refine lv_aload hx hb dX6_settleMost_35 (lv_at hl 0 rfl) ?_
    refine lv_iload_n hx hb dX6_settleMost_37 rfl (lv_at hl 2 rfl) ?_
    refine lv_iload_n hx hb dX6_settleMost_38 rfl (lv_at hl 3 rfl) ?_
    refine g_callV (i := 100000 + (1000 + 2 * (k).toNat)) (As := [.int (iI (s)), .int (iI (c))]) (rest := []) K (c_X7_isIn (k) (s) (c) hwf (by omega) (by omega) ⟨by omega, by omega⟩ ⟨by omega, by omega⟩) (cwV 2 hts gC_X6_158 rfl rfl rfl (by decide +kernel) ⟨Nat.le_of_ble_eq_true rfl, Nat.le_of_ble_eq_true rfl⟩) hK hW (kW_at (kC_pay hwf (by omega) (show (k) < S.1 8 0 from by omega))) rfl rfl hl.1 rfl (Nat.le_of_ble_eq_true rfl) dX6_settleMost_39 ⟨Nat.zero_le _, Nat.zero_le _⟩ (fun v_ f_ H locs hp hW => ?_)
    obtain ⟨hpv, hpe⟩ := hp
    rw [hpe] at hW
    have hpv : v_ = some (.int (iI (bI (decide (S.1 18 k = s) && decide (S.1 11 k = c))))) := hpv
    subst hpv
    refine xi_ifb_eq (tgt := 71) hx hb dX6_settleMost_42 (by decide) (fun c_8 => ?_) (fun c_8 => ?_)
    · refine xi_iinc (lv' := [(3, .int (iI (k + 1))), (4, .ref (ad (1000 + 2 * (k).toNat))), (2, .int (iI (s))), (1, .int (iI (c))), (0, .ref (ad 1))]) hx hb dX6_settleMost_71 hl (k := 1) rfl (by decide) rfl (fun ls hl => ?_)
      refine lv_goto (tgt := 9) hx hb dX6_settleMost_74 (by decide) ?_
      have hlc : mostC S s c k = false := by simp only [mostC, c_8, decide_true, decide_false, Bool.true_and, Bool.and_true, Bool.false_and, Bool.and_false, Bool.true_or, Bool.or_true, Bool.false_or, Bool.or_false, Bool.not_true, Bool.not_false, eq_self]
      exact ih_lp_1 (k + 1) (J) (a) (q) _ _ _ (by first | omega | (dsimp only; omega)) ⟨⟨⟨by omega, by omega⟩, hbv, mo_f hJ hlc⟩, hW, lv_sub hl [0, 2, 3, 4] rfl⟩
    · refine lv_aload hx hb dX6_settleMost_45 (lv_at hl 0 rfl) ?_
      refine g_get (ref := RX7) (T := TX7) (N := 9) (ci := 8) hx hb hts wsC_X7 hown hK hW (100000 + (1000 + 2 * (k).toNat)) (kW_at (kC_pay hwf (by omega) (show (k) < S.1 8 0 from by omega))) rfl 3 (by decide) (hts _ lC_X6_147) (fun x h => h) (v := pR ad (S.1 21 (k))) rfl dX6_settleMost_47 ?_
      have w_9 := wf_21 hwf (k)
      refine xp_ifnonnull (tgt := 71) hx hb dX6_settleMost_50 (by decide) (fun c_10 => ?_) (fun c_10 => ?_)
      · refine xi_iinc (lv' := [(3, .int (iI (k + 1))), (4, .ref (ad (1000 + 2 * (k).toNat))), (2, .int (iI (s))), (1, .int (iI (c))), (0, .ref (ad 1))]) hx hb dX6_settleMost_71 hl (k := 1) rfl (by decide) rfl (fun ls hl => ?_)
        refine lv_goto (tgt := 9) hx hb dX6_settleMost_74 (by decide) ?_
        have hlc : mostC S s c k = false := by simp only [mostC, c_8, c_10, decide_true, decide_false, Bool.true_and, Bool.and_true, Bool.false_and, Bool.and_false, Bool.true_or, Bool.or_true, Bool.false_or, Bool.or_false, Bool.not_true, Bool.not_false, eq_self]
        exact ih_lp_1 (k + 1) (J) (a) (q) _ _ _ (by first | omega | (dsimp only; omega)) ⟨⟨⟨by omega, by omega⟩, hbv, mo_f hJ hlc⟩, hW, lv_sub hl [0, 2, 3, 4] rfl⟩
      · refine lv_aload_n hx hb dX6_settleMost_53 rfl (lv_at hl 4 rfl) ?_
        refine lv_aload hx hb dX6_settleMost_54 (lv_at hl 0 rfl) ?_
        refine g_callV (i := 100000 + 1) (As := [.ref (ad (1000 + 2 * (k).toNat))]) (rest := []) K (c_X6_mayMove (k) hwf (by omega) (by omega)) (cwV 1 hts gC_X6_137 rfl rfl rfl (by decide +kernel) ⟨Nat.le_of_ble_eq_true rfl, Nat.le_of_ble_eq_true rfl⟩) hK hW (kW_at rfl) rfl rfl hl.1 rfl (Nat.le_of_ble_eq_true rfl) dX6_settleMost_56 ⟨Nat.zero_le _, Nat.zero_le _⟩ (fun v_ f_ H locs hp hW => ?_)
        obtain ⟨hpv, hpe⟩ := hp
        rw [hpe] at hW
        have hpv : v_ = some (.int (iI (bI (moves S k)))) := hpv
        subst hpv
        refine xi_ifb_eq (tgt := 71) hx hb dX6_settleMost_59 (by decide) (fun c_11 => ?_) (fun c_11 => ?_)
        · refine xi_iinc (lv' := [(3, .int (iI (k + 1))), (4, .ref (ad (1000 + 2 * (k).toNat))), (2, .int (iI (s))), (1, .int (iI (c))), (0, .ref (ad 1))]) hx hb dX6_settleMost_71 hl (k := 1) rfl (by decide) rfl (fun ls hl => ?_)
          refine lv_goto (tgt := 9) hx hb dX6_settleMost_74 (by decide) ?_
          have hlc : mostC S s c k = false := by simp only [mostC, c_8, c_10, c_11, decide_true, decide_false, Bool.true_and, Bool.and_true, Bool.false_and, Bool.and_false, Bool.true_or, Bool.or_true, Bool.false_or, Bool.or_false, Bool.not_true, Bool.not_false, eq_self]
          exact ih_lp_1 (k + 1) (J) (a) (q) _ _ _ (by first | omega | (dsimp only; omega)) ⟨⟨⟨by omega, by omega⟩, hbv, mo_f hJ hlc⟩, hW, lv_sub hl [0, 2, 3, 4] rfl⟩
        · refine lv_aload_n hx hb dX6_settleMost_62 rfl (lv_at hl 4 rfl) ?_
          refine g_get (ref := RX6) (T := TX6) (N := 8) (ci := 7) hx hb hts wsC_X6 hown hK hW (100000 + 1) (kW_at rfl) rfl 7 (by decide) (hts _ lC_X6_54) (fun x h => h) (v := .ref (ad 7)) rfl dX6_settleMost_63 ?_
          refine lv_aload hx hb dX6_settleMost_66 (lv_at hl 0 rfl) ?_
          refine g_callV (i := 100000 + 7) (As := [.ref (ad (1000 + 2 * (k).toNat))]) (rest := []) K (c_X2_put (k) hwf (by omega) (by omega)) (cwV 1 hts gC_X6_144 rfl rfl rfl (by decide +kernel) ⟨Nat.le_of_ble_eq_true rfl, Nat.le_of_ble_eq_true rfl⟩) hK hW (kW_at rfl) rfl rfl hl.1 rfl (Nat.le_of_ble_eq_true rfl) dX6_settleMost_68 ⟨Nat.zero_le _, Nat.zero_le _⟩ (fun v_ f_ H locs hp hW => ?_)
          obtain ⟨hpv, hpe⟩ := hp
          rw [hpe] at hW
          subst hpv
          refine xi_iinc (lv' := [(3, .int (iI (k + 1))), (4, .ref (ad (1000 + 2 * (k).toNat))), (2, .int (iI (s))), (1, .int (iI (c))), (0, .ref (ad 1))]) hx hb dX6_settleMost_71 hl (k := 1) rfl (by decide) rfl (fun ls hl => ?_)
          refine lv_goto (tgt := 9) hx hb dX6_settleMost_74 (by decide) ?_
          have hlc : mostC S s c k = true := by simp only [mostC, c_8, c_10, c_11, decide_true, decide_false, Bool.true_and, Bool.and_true, Bool.false_and, Bool.and_false, Bool.true_or, Bool.or_true, Bool.false_or, Bool.or_false, Bool.not_true, Bool.not_false, eq_self]
          exact ih_lp_1 (k + 1) ((iup J k true)) ((kC1 S k (Int64.ofInt (S.1 12 k)) a)) ((kQ1 S k (Int64.ofInt (S.1 12 k)) q)) _ _ _ (by first | omega | (dsimp only; omega)) ⟨⟨⟨by omega, by omega⟩, bInv_put hbv (by omega) (by unfold nP; omega) (mo_k hJ (by omega) (by unfold nP; omega)), mo_t hJ hlc⟩, hW, lv_sub hl [0, 2, 3, 4] rfl⟩
