/-- the advices that the class holds are those of the payments that became FINAL -/
def toldI (S : ST) : Prop := ∀ b : Int, 0 ≤ b → b ≤ 5 → S.1 44 b = ((aL S b (S.1 27 0).toNat).length : Int) ∧ ∀ i : Nat, i < (aL S b (S.1 27 0).toNat).length → S.1 43 (60 * b + i) = (aL S b (S.1 27 0).toNat).getD i (-1)
def takI (S : ST) : Prop := ∀ b : Int, 0 ≤ b → b ≤ 5 → S.1 29 b ≤ S.1 30 b
theorem pI_self (S : ST) (f : Nat) (k : Int) : pI S f k (S.1 f k) = S := by
  refine Prod.ext ?_ rfl
  funext g j
  simp only [pI]
  split
  · rename_i h; rw [h.1, h.2]
  · rfl
theorem adZ_eq {S : ST} {b : Int} (hw : wf S) (ht : toldI S) (b0 : 0 ≤ b) (b1 : b ≤ 5) : aAt S b (S.1 29 b) = if S.1 29 b < S.1 44 b then S.1 43 (60 * b + S.1 29 b) else -1 := by
  obtain ⟨h1, h2⟩ := ht b b0 b1
  have w29 := wf_29 hw b
  unfold aAt
  by_cases h : S.1 29 b < S.1 44 b
  · rw [if_pos h]
    have h3 := h2 (S.1 29 b).toNat (by omega)
    rw [show (((S.1 29 b).toNat : Nat) : Int) = S.1 29 b by omega] at h3
    exact h3.symm
  · rw [if_neg h, List.getD_eq_getElem?_getD, List.getElem?_eq_none (by omega)]; rfl
theorem adv_out {S : ST} {b : Int} (hk : takI S) (b0 : 0 ≤ b) (b1 : b ≤ 5) (h5 : ¬ S.1 5 b = 0) : pAdv S b = (0, -1, S) := by
  have hz : adZ S b = -1 := by unfold adZ; rw [if_neg h5]
  have hT : adT S b = S.1 29 b := by unfold adT; rw [hz, if_pos rfl]; omega
  have hM : adM S b = S.1 30 b := by unfold adM; rw [hT, if_neg (by have := hk b b0 b1; omega)]
  have hA : sIn b 0 5 = true := by simp only [sIn, Bool.and_eq_true, decide_eq_true_eq]; omega
  unfold pAdv
  rw [sGo_00 hA rfl rfl, if_pos (by rw [hA]; rfl), hz, hT, hM, pI_self, pI_self]
theorem adv_in {S : ST} {b : Int} (hw : wf S) (ht : toldI S) (hk : takI S) (b0 : 0 ≤ b) (b1 : b ≤ 5) (h5 : S.1 5 b = 0) : pAdv S b = (0, (if S.1 29 b < S.1 44 b then S.1 43 (60 * b + S.1 29 b) else -1), (if S.1 29 b < S.1 44 b then pI (pI S 29 b (S.1 29 b + 1)) 30 b (if S.1 29 b + 1 < S.1 30 b then S.1 30 b else S.1 29 b + 1) else S)) := by
  have hA : sIn b 0 5 = true := by simp only [sIn, Bool.and_eq_true, decide_eq_true_eq]; omega
  have hz : adZ S b = if S.1 29 b < S.1 44 b then S.1 43 (60 * b + S.1 29 b) else -1 := by unfold adZ; rw [if_pos h5]; exact adZ_eq hw ht b0 b1
  unfold pAdv
  rw [sGo_00 hA rfl rfl, if_pos (by rw [hA]; rfl), hz]
  by_cases h : S.1 29 b < S.1 44 b
  · have h43 := wf_43 hw (60 * b + S.1 29 b)
    have hT : adT S b = S.1 29 b + 1 := by unfold adT; rw [hz, if_pos h, if_neg (by omega)]
    have hM : adM S b = if S.1 29 b + 1 < S.1 30 b then S.1 30 b else S.1 29 b + 1 := by
      unfold adM
      rw [hT]
      split <;> split <;> omega
    rw [if_pos h, if_pos h, hT, hM]
  · have hT : adT S b = S.1 29 b := by unfold adT; rw [hz, if_neg h, if_pos rfl]; omega
    have hM : adM S b = S.1 30 b := by unfold adM; rw [hT, if_neg (by have := hk b b0 b1; omega)]
    rw [if_neg h, if_neg h, hT, hM, pI_self, pI_self]
theorem agK_len (S : ST) (b : Int) : ∀ n : Nat, suI (agK S b) n = ((aL S b n).length : Int)
  | 0 => rfl
  | n + 1 => by
    rw [aL_s, List.length_append]
    show suI (agK S b) n + agK S b n = _
    rw [agK_len S b n]
    unfold agK
    split
    · simp
    · simp
theorem f2_keep (S : ST) (b x y : Int) : nP (pI (pI S 29 b x) 30 b y) = nP S ∧ nE (pI (pI S 29 b x) 30 b y) = nE S := ⟨rfl, rfl⟩
set_option maxHeartbeats 4000000 in
set_option maxRecDepth 100000 in
theorem c_X11_entryAt {l : Launch} {D : va_G} {cy : Nat → ClassId} {B0 : Nat} {ad bk : Nat → Nat} {S : ST} {I : Int → Bool} {cX qX : Int → Int64} {G : gF} (k : Int) (j : Int) (hwf : wf S) (h_k : rI k) (h_j : rI j) (ho : okS S) (hlw : legW S) (he : S.1 31 0 + cNF S < 19900) (hG0 : G 50001 = none) (hG2 : G 50002 = none) (hG3 : G 50003 = none) (hP0 : nP S = 0 → ad 11 = D.1 21) (hE0 : nE S = 0 → bk 10 = D.1 21) (hsm : smE S) (hst : l.stackTraces = false) : gX l yX11_entryAt vX11_entryAt 7 109 D cy B0 [.ref (ad 0), .int (iI (k)), .int (iI (j))] (kW cy ad bk S (I, cX, qX) G) (fun r g_ => (pEnt S k j).1 = 0 ∧ ∃ (ad2 bk2 : Nat → Nat) (I2 : Int → Bool) (c2 q2 : Int → Int64), ad2 0 = ad 0 ∧ (nP (pEnt S k j).2.2 = 0 → ad2 11 = D.1 21) ∧ (nE (pEnt S k j).2.2 = 0 → bk2 10 = D.1 21) ∧ r = some (.long (pEnt S k j).2.1) ∧ g_ = kW cy ad2 bk2 (pEnt S k j).2.2 (I2, c2, q2) G) (fun E_ => ((pEnt S k j).1 = 1 ∧ E_ = xIO) ∨ ((pEnt S k j).1 = 2 ∧ E_ = xIA)) (kTc (nE (pEnt S k j).2.2) - kTc (nE S) + 4) (kTs (nE (pEnt S k j).2.2) - kTs (nE S) + 24) := by
  refine g_startX (cc := cX11_entryAt) (maxL := 4) (ret := (some .long)) (by decide) rfl (Nat.le_of_ble_eq_true rfl) ?_
  intro p_ e_ s_ m_ be_ me_ co_ ls H locs K hr hlk hnm ht hK hW hl
  obtain ⟨hx, hb, hml, hown, hts⟩ := id K
  have hl : lv_has ls 4 [(0, .ref (ad 0)), (1, .int (iI (k))), (2, .int (iI (j)))] := hl
  have h80 := wf_8 hwf 0
  have h310 := wf_31 hwf 0
  refine lv_aload_n hx hb dX11_entryAt_0 rfl (lv_at hl 0 rfl) ?_
  refine g_get (ref := RX11) (T := TX11) (N := 1) (ci := 12) hx hb hts wsC_X11 hown hK hW (100000 + 0) (kW_at rfl) rfl 0 (by decide) (hts _ lC_X11_10) (fun x h => h) (v := .ref (ad 1)) rfl dX11_entryAt_1 ?_
  refine g_get (ref := RX6) (T := TX6) (N := 8) (ci := 7) hx hb hts wsC_X6 hown hK hW (100000 + 1) (kW_at rfl) rfl 1 (by decide) (hts _ lC_X11_25) (fun x h => h) (v := .ref (ad 3)) rfl dX11_entryAt_4 ?_
  refine g_get (ref := RX0) (T := TX0) (N := 5) (ci := 1) hx hb hts wsC_X0 hown hK hW (100000 + 3) (kW_at rfl) rfl 0 (by decide) (hts _ lC_X11_197) (fun x h => h) (v := .ref (ad 4)) rfl dX11_entryAt_7 ?_
  refine lv_iload_n hx hb dX11_entryAt_10 rfl (lv_at hl 1 rfl) ?_
  refine g_callV (i := 100000 + 4) (As := [.int (iI (k))]) (rest := []) K (c_X3_find (k) hwf ⟨by omega, by omega⟩) (cwV 1 hts gC_X11_224 rfl rfl rfl (by decide +kernel) ⟨Nat.le_of_ble_eq_true rfl, Nat.le_of_ble_eq_true rfl⟩) hK hW (kW_at rfl) rfl rfl hl.1 rfl (Nat.le_of_ble_eq_true rfl) dX11_entryAt_11 ⟨by dsimp only; omega, by dsimp only; omega⟩ (fun v_ f_ H locs hp hW => ?_)
  obtain ⟨hpv, hpe⟩ := hp
  rw [hpe] at hW
  have hpv : v_ = some (eR bk (kFnE S k)) := hpv
  subst hpv
  by_cases hkk : 0 ≤ k ∧ k < S.1 31 0
  · rw [show eR bk (kFnE S k) = .ref (bk (2000 + (k).toNat)) by rw [show kFnE S k = k from if_pos hkk]; unfold eR; rw [if_neg (by omega)]]
    refine lv_astore_n (lv' := [(3, .ref (bk (2000 + (k).toNat))), (0, .ref (ad 0)), (1, .int (iI (k))), (2, .int (iI (j)))]) hx hb dX11_entryAt_14 rfl hl (by decide) rfl (fun ls hl => ?_)
    refine lv_aload_n hx hb dX11_entryAt_15 rfl (lv_at hl 0 rfl) ?_
    refine lv_ifnonnull (tgt := 29) hx hb dX11_entryAt_16 (by decide) ?_
    refine lv_iload_n hx hb dX11_entryAt_29 rfl (lv_at hl 3 rfl) ?_
    refine xi_iconst hx hb dX11_entryAt_30 ?_
    refine xi_iconst hx hb dX11_entryAt_31 ?_
    refine g_xcallS (As := [.int (iI (j)), .int (iI (0)), .int (iI (4))]) (rest := []) K (c_X11_needRange (j) (0) (4) ⟨by omega, by omega⟩ ⟨by omega, by omega⟩ ⟨by omega, by omega⟩ hst) (va_cwS 3 hts gC_X11_21 rfl rfl rfl (by decide +kernel) ⟨Nat.le_of_ble_eq_true rfl, Nat.le_of_ble_eq_true rfl⟩) hK hW rfl hl.1 rfl (Nat.le_of_ble_eq_true rfl) dX11_entryAt_32 ⟨by dsimp only; omega, by dsimp only; omega⟩ (fun E_ ce_ q9_ H1 locs1 hE hW1 h1_ h2_ h3_ => g_outX ht hlk hW1 (fun _ _ h => h) (by obtain ⟨rfl, hE⟩ := hE; exact (Or.inr ⟨(show (pEnt S k j).1 = 2 from sGo_2 (a := sIn k 0 (S.1 31 0 - 1)) (b := sIn j 0 4) (d := true) (by (try simp only [sIn, Bool.and_eq_true, Bool.or_eq_true, Bool.and_eq_false_iff, Bool.or_eq_false_iff, decide_eq_true_eq, decide_eq_false_iff_not, Bool.not_eq_true, Bool.not_eq_false, Bool.not_eq_true', Bool.not_eq_false', Bool.not_true, Bool.not_false, Bool.true_and, Bool.and_true, Bool.false_and, Bool.and_false, Bool.true_or, Bool.or_true, Bool.false_or, Bool.or_false]); first | done | rfl | omega) (by have hE2 := hE; (try simp only [sIn, Bool.and_eq_true, Bool.or_eq_true, Bool.and_eq_false_iff, Bool.or_eq_false_iff, decide_eq_true_eq, decide_eq_false_iff_not, Bool.not_eq_true, Bool.not_eq_false, Bool.not_eq_true', Bool.not_eq_false', Bool.not_true, Bool.not_false, Bool.true_and, Bool.and_true, Bool.false_and, Bool.and_false, Bool.true_or, Bool.or_true, Bool.false_or, Bool.or_false] at hE2); simp only [sIn, Bool.and_eq_true, Bool.or_eq_true, Bool.and_eq_false_iff, Bool.or_eq_false_iff, decide_eq_true_eq, decide_eq_false_iff_not, Bool.not_eq_true, Bool.not_eq_false, Bool.not_eq_true', Bool.not_eq_false', Bool.not_true, Bool.not_false, Bool.true_and, Bool.and_true, Bool.false_and, Bool.and_false, Bool.true_or, Bool.or_true, Bool.false_or, Bool.or_false]; omega)), rfl⟩)) h1_ h2_ h3_ (by first | omega | (dsimp only; omega)) (by first | omega | (dsimp only; omega))) (fun v_ f_ H locs hp hW => ?_)
    obtain ⟨hq_1, hpv, hpe⟩ := hp
    rw [hpe] at hW
    subst hpv
    (try simp only [Bool.and_eq_true, Bool.or_eq_true, Bool.and_eq_false_iff, Bool.or_eq_false_iff, decide_eq_true_eq, decide_eq_false_iff_not, Bool.not_eq_true, Bool.not_eq_false, Bool.not_eq_true', Bool.not_eq_false', Bool.not_true, Bool.not_false, Bool.true_and, Bool.and_true, Bool.false_and, Bool.and_false, Bool.true_or, Bool.or_true, Bool.false_or, Bool.or_false] at hq_1)
    refine lv_aload_n hx hb dX11_entryAt_35 rfl (lv_at hl 0 rfl) ?_
    refine lv_iload_n hx hb dX11_entryAt_36 rfl (lv_at hl 3 rfl) ?_
    refine g_callV (i := 100000 + (2000 + (k).toNat)) (As := [.int (iI (j))]) (rest := []) K (c_X5_part (k) (j) hwf hsm (by omega) (by omega) ⟨by omega, by omega⟩) (cwV 1 hts gC_X11_232 rfl rfl rfl (by decide +kernel) ⟨Nat.le_of_ble_eq_true rfl, Nat.le_of_ble_eq_true rfl⟩) hK hW (kW_at (kC_ent hwf (by omega) (by omega))) rfl rfl hl.1 rfl (Nat.le_of_ble_eq_true rfl) dX11_entryAt_37 ⟨by dsimp only; omega, by dsimp only; omega⟩ (fun v_ f_ H locs hp hW => ?_)
    obtain ⟨hpv, hpe⟩ := hp
    rw [hpe] at hW
    subst hpv
    have hcA : (sIn k 0 (S.1 31 0 - 1)) = true := (by (try simp only [sIn, Bool.and_eq_true, Bool.or_eq_true, Bool.and_eq_false_iff, Bool.or_eq_false_iff, decide_eq_true_eq, decide_eq_false_iff_not, Bool.not_eq_true, Bool.not_eq_false, Bool.not_eq_true', Bool.not_eq_false', Bool.not_true, Bool.not_false, Bool.true_and, Bool.and_true, Bool.false_and, Bool.and_false, Bool.true_or, Bool.or_true, Bool.false_or, Bool.or_false]); first | done | rfl | omega)
    have hcB : (sIn j 0 4) = true := (by (try simp only [sIn, Bool.and_eq_true, Bool.or_eq_true, Bool.and_eq_false_iff, Bool.or_eq_false_iff, decide_eq_true_eq, decide_eq_false_iff_not, Bool.not_eq_true, Bool.not_eq_false, Bool.not_eq_true', Bool.not_eq_false', Bool.not_true, Bool.not_false, Bool.true_and, Bool.and_true, Bool.false_and, Bool.and_false, Bool.true_or, Bool.or_true, Bool.false_or, Bool.or_false]); first | done | rfl | omega)
    have hcC : (true) = true := (by (try simp only [sIn, Bool.and_eq_true, Bool.or_eq_true, Bool.and_eq_false_iff, Bool.or_eq_false_iff, decide_eq_true_eq, decide_eq_false_iff_not, Bool.not_eq_true, Bool.not_eq_false, Bool.not_eq_true', Bool.not_eq_false', Bool.not_true, Bool.not_false, Bool.true_and, Bool.and_true, Bool.false_and, Bool.and_false, Bool.true_or, Bool.or_true, Bool.false_or, Bool.or_false]); first | done | rfl | omega)
    have hsp : pEnt S k j = (0, S.2 32 (5 * k + j), S) := by unfold pEnt; rw [sGo_00 hcA hcB hcC, if_pos (show ((sIn k 0 (S.1 31 0 - 1)) && (sIn j 0 4) && (true)) = true by rw [hcA, hcB, hcC]; rfl)]
    exact W.widen (by first | omega | (dsimp only; omega)) (by first | omega | (dsimp only; omega)) (vx_ret (g_lret hx hb hr hW ⟨by rw [hsp], ad, bk, I, cX, qX, rfl, fun h => hP0 (by rw [hsp] at h; exact h), fun h => hE0 (by rw [hsp] at h; exact h), by rw [hsp], by rw [hsp]⟩ dX11_entryAt_40 hlk))
  · rw [show eR bk (kFnE S k) = .null by rw [show kFnE S k = -1 from if_neg hkk]; rfl]
    refine lv_astore_nN (lv' := [(3, .null), (0, .ref (ad 0)), (1, .int (iI (k))), (2, .int (iI (j)))]) hx hb dX11_entryAt_14 rfl hl (by decide) rfl (fun ls hl => ?_)
    refine lv_aload_nN hx hb dX11_entryAt_15 rfl (lv_at hl 0 rfl) ?_
    refine lv_ifnonnullN hx hb dX11_entryAt_16 ?_
    exact g_throwX (is := 228) (text := "no such entry") hx hb hst hown hK (by decide +kernel) (hts _ hC_X11_213) (hts _ (wsC_sub _ wsCw_489)) (fun w h => hts w (wsC_vio w h)) xng_io (List.mem_of_getElem? (i := 11) rfl) xvo_io (List.mem_of_getElem? (i := 1) rfl) hW (by rw [hml]; exact hl.1) ht hlk (Or.inl ⟨(by have hE := hkk; exact (show (pEnt S k j).1 = 1 from sGo_1 (a := sIn k 0 (S.1 31 0 - 1)) (b := sIn j 0 4) (d := true) (by have hE2 := hE; (try simp only [sIn, Bool.and_eq_true, Bool.or_eq_true, Bool.and_eq_false_iff, Bool.or_eq_false_iff, decide_eq_true_eq, decide_eq_false_iff_not, Bool.not_eq_true, Bool.not_eq_false, Bool.not_eq_true', Bool.not_eq_false', Bool.not_true, Bool.not_false, Bool.true_and, Bool.and_true, Bool.false_and, Bool.and_false, Bool.true_or, Bool.or_true, Bool.false_or, Bool.or_false] at hE2); simp only [sIn, Bool.and_eq_true, Bool.or_eq_true, Bool.and_eq_false_iff, Bool.or_eq_false_iff, decide_eq_true_eq, decide_eq_false_iff_not, Bool.not_eq_true, Bool.not_eq_false, Bool.not_eq_true', Bool.not_eq_false', Bool.not_true, Bool.not_false, Bool.true_and, Bool.and_true, Bool.false_and, Bool.and_false, Bool.true_or, Bool.or_true, Bool.false_or, Bool.or_false]; omega))), rfl⟩) (fun _ _ h => h) dX11_entryAt_19 dX11_entryAt_22 dX11_entryAt_23 dX11_entryAt_25 dX11_entryAt_28 (Nat.le_of_ble_eq_true rfl) (Nat.le_of_ble_eq_true rfl) (by first | omega | (dsimp only; omega)) (by first | omega | (dsimp only; omega)) (by first | omega | (dsimp only; omega)) (by first | omega | (dsimp only; omega))
set_option maxHeartbeats 4000000 in
set_option maxRecDepth 100000 in
theorem c_X11_advice {l : Launch} {D : va_G} {cy : Nat → ClassId} {B0 : Nat} {ad bk : Nat → Nat} {S : ST} {I : Int → Bool} {cX qX : Int → Int64} {G : gF} (b : Int) (hwf : wf S) (h_b : rI b) (ho : okS S) (hlw : legW S) (he : S.1 31 0 + cNF S < 19900) (hG0 : G 50001 = none) (hG2 : G 50002 = none) (hG3 : G 50003 = none) (hP0 : nP S = 0 → ad 11 = D.1 21) (hE0 : nE S = 0 → bk 10 = D.1 21) (hto : toldI S) (htk : takI S) (hst : l.stackTraces = false) : gX l yX11_advice vX11_advice 7 103 D cy B0 [.ref (ad 0), .int (iI (b))] (kW cy ad bk S (I, cX, qX) G) (fun r g_ => (pAdv S b).1 = 0 ∧ ∃ (ad2 bk2 : Nat → Nat) (I2 : Int → Bool) (c2 q2 : Int → Int64), ad2 0 = ad 0 ∧ (nP (pAdv S b).2.2 = 0 → ad2 11 = D.1 21) ∧ (nE (pAdv S b).2.2 = 0 → bk2 10 = D.1 21) ∧ r = some (.int (iI (pAdv S b).2.1)) ∧ g_ = kW cy ad2 bk2 (pAdv S b).2.2 (I2, c2, q2) G) (fun E_ => ((pAdv S b).1 = 1 ∧ E_ = xIO)) (kTc (nE (pAdv S b).2.2) - kTc (nE S) + 16) (kTs (nE (pAdv S b).2.2) - kTs (nE S) + 400) := by
  refine g_startX (cc := cX11_advice) (maxL := 2) (ret := (some .int)) (by decide) rfl (Nat.le_of_ble_eq_true rfl) ?_
  intro p_ e_ s_ m_ be_ me_ co_ ls H locs K hr hlk hnm ht hK hW hl
  obtain ⟨hx, hb, hml, hown, hts⟩ := id K
  have hl : lv_has ls 2 [(0, .ref (ad 0)), (1, .int (iI (b)))] := hl
  have h80 := wf_8 hwf 0
  have h310 := wf_31 hwf 0
  refine lv_iload_n hx hb dX11_advice_0 rfl (lv_at hl 1 rfl) ?_
  refine xi_bipush hx hb dX11_advice_1 (by decide) ?_
  refine g_xcallS (As := [.int (iI (b)), .int (iI (6))]) (rest := []) K (c_X11_needPlace (b) (6) ⟨by omega, by omega⟩ ⟨by omega, by omega⟩ hst) (va_cwS 2 hts gC_X11_16 rfl rfl rfl (by decide +kernel) ⟨Nat.le_of_ble_eq_true rfl, Nat.le_of_ble_eq_true rfl⟩) hK hW rfl hl.1 rfl (Nat.le_of_ble_eq_true rfl) dX11_advice_3 ⟨by dsimp only; omega, by dsimp only; omega⟩ (fun E_ ce_ q9_ H1 locs1 hE hW1 h1_ h2_ h3_ => g_outX ht hlk hW1 (fun _ _ h => h) (by obtain ⟨rfl, hE⟩ := hE; exact ⟨(show (pAdv S b).1 = 1 from sGo_1 (a := sIn b 0 5) (b := true) (d := true) (by have hE2 := hE; (try simp only [sIn, Bool.and_eq_true, Bool.or_eq_true, Bool.and_eq_false_iff, Bool.or_eq_false_iff, decide_eq_true_eq, decide_eq_false_iff_not, Bool.not_eq_true, Bool.not_eq_false, Bool.not_eq_true', Bool.not_eq_false', Bool.not_true, Bool.not_false, Bool.true_and, Bool.and_true, Bool.false_and, Bool.and_false, Bool.true_or, Bool.or_true, Bool.false_or, Bool.or_false] at hE2); simp only [sIn, Bool.and_eq_true, Bool.or_eq_true, Bool.and_eq_false_iff, Bool.or_eq_false_iff, decide_eq_true_eq, decide_eq_false_iff_not, Bool.not_eq_true, Bool.not_eq_false, Bool.not_eq_true', Bool.not_eq_false', Bool.not_true, Bool.not_false, Bool.true_and, Bool.and_true, Bool.false_and, Bool.and_false, Bool.true_or, Bool.or_true, Bool.false_or, Bool.or_false]; omega)), rfl⟩) h1_ h2_ h3_ (by first | omega | (dsimp only; omega)) (by first | omega | (dsimp only; omega))) (fun v_ f_ H locs hp hW => ?_)
  obtain ⟨hq_1, hpv, hpe⟩ := hp
  rw [hpe] at hW
  subst hpv
  (try simp only [Bool.and_eq_true, Bool.or_eq_true, Bool.and_eq_false_iff, Bool.or_eq_false_iff, decide_eq_true_eq, decide_eq_false_iff_not, Bool.not_eq_true, Bool.not_eq_false, Bool.not_eq_true', Bool.not_eq_false', Bool.not_true, Bool.not_false, Bool.true_and, Bool.and_true, Bool.false_and, Bool.and_false, Bool.true_or, Bool.or_true, Bool.false_or, Bool.or_false] at hq_1)
  refine lv_aload_n hx hb dX11_advice_6 rfl (lv_at hl 0 rfl) ?_
  refine g_get (ref := RX11) (T := TX11) (N := 1) (ci := 12) hx hb hts wsC_X11 hown hK hW (100000 + 0) (kW_at rfl) rfl 0 (by decide) (hts _ lC_X11_10) (fun x h => h) (v := .ref (ad 1)) rfl dX11_advice_7 ?_
  refine g_get (ref := RX6) (T := TX6) (N := 8) (ci := 7) hx hb hts wsC_X6 hown hK hW (100000 + 1) (kW_at rfl) rfl 4 (by decide) (hts _ lC_X11_57) (fun x h => h) (v := .ref (ad 30)) rfl dX11_advice_10 ?_
  refine lv_iload_n hx hb dX11_advice_13 rfl (lv_at hl 1 rfl) ?_
  refine g_callV (i := 100000 + 30) (As := [.int (iI (b))]) (rest := []) K (c_X9_isSet (i := 100000 + 30) (j := 100000 + (40 + 10)) (b) (kW_at rfl) (kW_at (kC_row (r := 10) (by decide))) (by decide) (by decide) (show 0 ≤ (b) ∧ (b) < ((6 : Nat) : Int) from ⟨by omega, by omega⟩)) (cwV 1 hts gC_X11_61 rfl rfl rfl (by decide +kernel) ⟨Nat.le_of_ble_eq_true rfl, Nat.le_of_ble_eq_true rfl⟩) hK hW (kW_at rfl) rfl rfl hl.1 rfl (Nat.le_of_ble_eq_true rfl) dX11_advice_14 ⟨by dsimp only; omega, by dsimp only; omega⟩ (fun v_ f_ H locs hp hW => ?_)
  obtain ⟨hpv, hpe⟩ := hp
  rw [hpe] at hW
  have w_2 := wf_5 hwf (b)
  have hpv : v_ = some (.int (iI (bI (!decide (Int64.ofInt (S.1 5 (b)) = 0))))) := hpv
  rw [show decide (Int64.ofInt (S.1 5 (b)) = 0) = decide ((S.1 5 (b)) = 0) from decide_eq_decide.mpr (ofInt_0 ⟨by omega, by omega⟩)] at hpv
  subst hpv
  refine xi_ifb_eq (tgt := 24) hx hb dX11_advice_17 (by decide) (fun c_3 => ?_) (fun c_3 => ?_)
  · have c_3n : ((S.1 5 (b)) = 0) := by simpa using c_3
    refine lv_aload_n hx hb dX11_advice_24 rfl (lv_at hl 0 rfl) ?_
    refine g_get (ref := RX11) (T := TX11) (N := 1) (ci := 12) hx hb hts wsC_X11 hown hK hW (100000 + 0) (kW_at rfl) rfl 0 (by decide) (hts _ lC_X11_10) (fun x h => h) (v := .ref (ad 1)) rfl dX11_advice_25 ?_
    refine g_get (ref := RX6) (T := TX6) (N := 8) (ci := 7) hx hb hts wsC_X6 hown hK hW (100000 + 1) (kW_at rfl) rfl 3 (by decide) (hts _ lC_X11_235) (fun x h => h) (v := .ref (ad 6)) rfl dX11_advice_28 ?_
    refine lv_iload_n hx hb dX11_advice_31 rfl (lv_at hl 1 rfl) ?_
    refine g_callV (i := 100000 + 6) (As := [.int (iI (b))]) (rest := []) K (c_X1_takeNext (b) hwf ⟨by omega, by omega⟩) (cwV 1 hts gC_X11_239 rfl rfl rfl (by decide +kernel) ⟨Nat.le_of_ble_eq_true rfl, Nat.le_of_ble_eq_true rfl⟩) hK hW (kW_at rfl) rfl rfl hl.1 rfl (Nat.le_of_ble_eq_true rfl) dX11_advice_32 ⟨by dsimp only; omega, by dsimp only; omega⟩ (fun v_ f_ H locs hp hW => ?_)
    obtain ⟨hpv, hpe⟩ := hp
    rw [hpe] at hW
    have hpv : v_ = some (.int (iI (if S.1 29 b < S.1 44 b then S.1 43 (60 * b + S.1 29 b) else -1))) := hpv
    subst hpv
    have hsp := adv_in hwf hto htk (by omega) (by omega) c_3n
    have hNP : nP (pAdv S b).2.2 = nP S := by rw [hsp]; split <;> rfl
    have hNE : nE (pAdv S b).2.2 = nE S := by rw [hsp]; split <;> rfl
    exact W.widen (by first | omega | (dsimp only; omega)) (by first | omega | (dsimp only; omega)) (vx_ret (g_iret hx hb hr hW ⟨by rw [hsp], ad, bk, I, cX, qX, rfl, fun h => hP0 (by rw [← hNP]; exact h), fun h => hE0 (by rw [← hNE]; exact h), by rw [hsp], by rw [hsp]⟩ dX11_advice_35 hlk))
  · have c_3n : ¬ ((S.1 5 (b)) = 0) := by simpa using c_3
    refine xi_iconst hx hb dX11_advice_20 ?_
    refine lv_goto (tgt := 35) hx hb dX11_advice_21 (by decide) ?_
    have hsp := adv_out htk (by omega) (by omega) c_3n
    have hNP : nP (pAdv S b).2.2 = nP S := by rw [hsp]
    have hNE : nE (pAdv S b).2.2 = nE S := by rw [hsp]
    exact W.widen (by first | omega | (dsimp only; omega)) (by first | omega | (dsimp only; omega)) (vx_ret (g_iret hx hb hr hW ⟨by rw [hsp], ad, bk, I, cX, qX, rfl, fun h => hP0 (by rw [← hNP]; exact h), fun h => hE0 (by rw [← hNE]; exact h), by rw [hsp], by rw [hsp]⟩ dX11_advice_35 hlk))
set_option maxHeartbeats 4000000 in
set_option maxRecDepth 100000 in
theorem c_X11_again {l : Launch} {D : va_G} {cy : Nat → ClassId} {B0 : Nat} {ad bk : Nat → Nat} {S : ST} {I : Int → Bool} {cX qX : Int → Int64} {G : gF} (b : Int) (y : Int) (hwf : wf S) (h_b : rI b) (h_y : rI y) (ho : okS S) (hlw : legW S) (he : S.1 31 0 + cNF S < 19900) (hG0 : G 50001 = none) (hG2 : G 50002 = none) (hG3 : G 50003 = none) (hP0 : nP S = 0 → ad 11 = D.1 21) (hE0 : nE S = 0 → bk 10 = D.1 21) (hto : toldI S) (hst : l.stackTraces = false) : gX l yX11_again vX11_again 7 104 D cy B0 [.ref (ad 0), .int (iI (b)), .int (iI (y))] (kW cy ad bk S (I, cX, qX) G) (fun r g_ => (pAga S b y).1 = 0 ∧ ∃ (ad2 bk2 : Nat → Nat) (I2 : Int → Bool) (c2 q2 : Int → Int64), ad2 0 = ad 0 ∧ (nP (pAga S b y).2.2 = 0 → ad2 11 = D.1 21) ∧ (nE (pAga S b y).2.2 = 0 → bk2 10 = D.1 21) ∧ r = some (.int (iI (pAga S b y).2.1)) ∧ g_ = kW cy ad2 bk2 (pAga S b y).2.2 (I2, c2, q2) G) (fun E_ => ((pAga S b y).1 = 1 ∧ E_ = xIO) ∨ ((pAga S b y).1 = 2 ∧ E_ = xIA)) (kTc (nE (pAga S b y).2.2) - kTc (nE S) + 16) (kTs (nE (pAga S b y).2.2) - kTs (nE S) + 400) := by
  refine g_startX (cc := cX11_again) (maxL := 3) (ret := (some .int)) (by decide) rfl (Nat.le_of_ble_eq_true rfl) ?_
  intro p_ e_ s_ m_ be_ me_ co_ ls H locs K hr hlk hnm ht hK hW hl
  obtain ⟨hx, hb, hml, hown, hts⟩ := id K
  have hl : lv_has ls 3 [(0, .ref (ad 0)), (1, .int (iI (b))), (2, .int (iI (y)))] := hl
  have h80 := wf_8 hwf 0
  have h310 := wf_31 hwf 0
  refine lv_iload_n hx hb dX11_again_0 rfl (lv_at hl 1 rfl) ?_
  refine xi_bipush hx hb dX11_again_1 (by decide) ?_
  refine g_xcallS (As := [.int (iI (b)), .int (iI (6))]) (rest := []) K (c_X11_needPlace (b) (6) ⟨by omega, by omega⟩ ⟨by omega, by omega⟩ hst) (va_cwS 2 hts gC_X11_16 rfl rfl rfl (by decide +kernel) ⟨Nat.le_of_ble_eq_true rfl, Nat.le_of_ble_eq_true rfl⟩) hK hW rfl hl.1 rfl (Nat.le_of_ble_eq_true rfl) dX11_again_3 ⟨by dsimp only; omega, by dsimp only; omega⟩ (fun E_ ce_ q9_ H1 locs1 hE hW1 h1_ h2_ h3_ => g_outX ht hlk hW1 (fun _ _ h => h) (by obtain ⟨rfl, hE⟩ := hE; exact (Or.inl ⟨(show (pAga S b y).1 = 1 from sGo_1 (a := sIn b 0 5) (b := okG S b y) (d := true) (by have hE2 := hE; (try simp only [okG, sIn, Bool.and_eq_true, Bool.or_eq_true, Bool.and_eq_false_iff, Bool.or_eq_false_iff, decide_eq_true_eq, decide_eq_false_iff_not, Bool.not_eq_true, Bool.not_eq_false, Bool.not_eq_true', Bool.not_eq_false', Bool.not_true, Bool.not_false, Bool.true_and, Bool.and_true, Bool.false_and, Bool.and_false, Bool.true_or, Bool.or_true, Bool.false_or, Bool.or_false] at hE2); simp only [okG, sIn, Bool.and_eq_true, Bool.or_eq_true, Bool.and_eq_false_iff, Bool.or_eq_false_iff, decide_eq_true_eq, decide_eq_false_iff_not, Bool.not_eq_true, Bool.not_eq_false, Bool.not_eq_true', Bool.not_eq_false', Bool.not_true, Bool.not_false, Bool.true_and, Bool.and_true, Bool.false_and, Bool.and_false, Bool.true_or, Bool.or_true, Bool.false_or, Bool.or_false]; omega)), rfl⟩)) h1_ h2_ h3_ (by first | omega | (dsimp only; omega)) (by first | omega | (dsimp only; omega))) (fun v_ f_ H locs hp hW => ?_)
  obtain ⟨hq_1, hpv, hpe⟩ := hp
  rw [hpe] at hW
  subst hpv
  (try simp only [Bool.and_eq_true, Bool.or_eq_true, Bool.and_eq_false_iff, Bool.or_eq_false_iff, decide_eq_true_eq, decide_eq_false_iff_not, Bool.not_eq_true, Bool.not_eq_false, Bool.not_eq_true', Bool.not_eq_false', Bool.not_true, Bool.not_false, Bool.true_and, Bool.and_true, Bool.false_and, Bool.and_false, Bool.true_or, Bool.or_true, Bool.false_or, Bool.or_false] at hq_1)
  refine lv_iload_n hx hb dX11_again_6 rfl (lv_at hl 2 rfl) ?_
  refine xi_iconst hx hb dX11_again_7 ?_
  refine lv_aload_n hx hb dX11_again_8 rfl (lv_at hl 0 rfl) ?_
  refine g_get (ref := RX11) (T := TX11) (N := 1) (ci := 12) hx hb hts wsC_X11 hown hK hW (100000 + 0) (kW_at rfl) rfl 0 (by decide) (hts _ lC_X11_10) (fun x h => h) (v := .ref (ad 1)) rfl dX11_again_9 ?_
  refine g_get (ref := RX6) (T := TX6) (N := 8) (ci := 7) hx hb hts wsC_X6 hown hK hW (100000 + 1) (kW_at rfl) rfl 3 (by decide) (hts _ lC_X11_235) (fun x h => h) (v := .ref (ad 6)) rfl dX11_again_12 ?_
  have h30w := wf_30 hwf b
  refine lv_iload_n hx hb dX11_again_15 rfl (lv_at hl 1 rfl) ?_
  refine g_callV (i := 100000 + 6) (As := [.int (iI (b))]) (rest := [.int (iI (0)), .int (iI (y))]) K (c_X1_mostTaken (b) hwf ⟨by omega, by omega⟩) (cwV 1 hts gC_X11_244 rfl rfl rfl (by decide +kernel) ⟨Nat.le_of_ble_eq_true rfl, Nat.le_of_ble_eq_true rfl⟩) hK hW (kW_at rfl) rfl rfl hl.1 rfl (Nat.le_of_ble_eq_true rfl) dX11_again_16 ⟨by dsimp only; omega, by dsimp only; omega⟩ (fun v_ f_ H locs hp hW => ?_)
  obtain ⟨hpv, hpe⟩ := hp
  rw [hpe] at hW
  have hpv : v_ = some (.int (iI (S.1 30 b))) := hpv
  subst hpv
  refine g_xcallS (As := [.int (iI (y)), .int (iI (0)), .int (iI (S.1 30 b))]) (rest := []) K (c_X11_needRange (y) (0) (S.1 30 b) ⟨by omega, by omega⟩ ⟨by omega, by omega⟩ ⟨by omega, by omega⟩ hst) (va_cwS 3 hts gC_X11_21 rfl rfl rfl (by decide +kernel) ⟨Nat.le_of_ble_eq_true rfl, Nat.le_of_ble_eq_true rfl⟩) hK hW rfl hl.1 rfl (Nat.le_of_ble_eq_true rfl) dX11_again_19 ⟨by dsimp only; omega, by dsimp only; omega⟩ (fun E_ ce_ q9_ H1 locs1 hE hW1 h1_ h2_ h3_ => g_outX ht hlk hW1 (fun _ _ h => h) (by obtain ⟨rfl, hE⟩ := hE; exact (Or.inr ⟨(show (pAga S b y).1 = 2 from sGo_2 (a := sIn b 0 5) (b := okG S b y) (d := true) (by (try simp only [okG, sIn, Bool.and_eq_true, Bool.or_eq_true, Bool.and_eq_false_iff, Bool.or_eq_false_iff, decide_eq_true_eq, decide_eq_false_iff_not, Bool.not_eq_true, Bool.not_eq_false, Bool.not_eq_true', Bool.not_eq_false', Bool.not_true, Bool.not_false, Bool.true_and, Bool.and_true, Bool.false_and, Bool.and_false, Bool.true_or, Bool.or_true, Bool.false_or, Bool.or_false]); first | done | rfl | omega) (by have hE2 := hE; (try simp only [okG, sIn, Bool.and_eq_true, Bool.or_eq_true, Bool.and_eq_false_iff, Bool.or_eq_false_iff, decide_eq_true_eq, decide_eq_false_iff_not, Bool.not_eq_true, Bool.not_eq_false, Bool.not_eq_true', Bool.not_eq_false', Bool.not_true, Bool.not_false, Bool.true_and, Bool.and_true, Bool.false_and, Bool.and_false, Bool.true_or, Bool.or_true, Bool.false_or, Bool.or_false] at hE2); simp only [okG, sIn, Bool.and_eq_true, Bool.or_eq_true, Bool.and_eq_false_iff, Bool.or_eq_false_iff, decide_eq_true_eq, decide_eq_false_iff_not, Bool.not_eq_true, Bool.not_eq_false, Bool.not_eq_true', Bool.not_eq_false', Bool.not_true, Bool.not_false, Bool.true_and, Bool.and_true, Bool.false_and, Bool.and_false, Bool.true_or, Bool.or_true, Bool.false_or, Bool.or_false]; omega)), rfl⟩)) h1_ h2_ h3_ (by first | omega | (dsimp only; omega)) (by first | omega | (dsimp only; omega))) (fun v_ f_ H locs hp hW => ?_)
  obtain ⟨hq_2, hpv, hpe⟩ := hp
  rw [hpe] at hW
  subst hpv
  (try simp only [Bool.and_eq_true, Bool.or_eq_true, Bool.and_eq_false_iff, Bool.or_eq_false_iff, decide_eq_true_eq, decide_eq_false_iff_not, Bool.not_eq_true, Bool.not_eq_false, Bool.not_eq_true', Bool.not_eq_false', Bool.not_true, Bool.not_false, Bool.true_and, Bool.and_true, Bool.false_and, Bool.and_false, Bool.true_or, Bool.or_true, Bool.false_or, Bool.or_false] at hq_2)
  refine lv_aload_n hx hb dX11_again_22 rfl (lv_at hl 0 rfl) ?_
  refine g_get (ref := RX11) (T := TX11) (N := 1) (ci := 12) hx hb hts wsC_X11 hown hK hW (100000 + 0) (kW_at rfl) rfl 0 (by decide) (hts _ lC_X11_10) (fun x h => h) (v := .ref (ad 1)) rfl dX11_again_23 ?_
  refine g_get (ref := RX6) (T := TX6) (N := 8) (ci := 7) hx hb hts wsC_X6 hown hK hW (100000 + 1) (kW_at rfl) rfl 3 (by decide) (hts _ lC_X11_235) (fun x h => h) (v := .ref (ad 6)) rfl dX11_again_26 ?_
  refine lv_iload_n hx hb dX11_again_29 rfl (lv_at hl 1 rfl) ?_
  refine lv_iload_n hx hb dX11_again_30 rfl (lv_at hl 2 rfl) ?_
  refine g_callV (i := 100000 + 6) (As := [.int (iI (b)), .int (iI (y))]) (rest := []) K (c_X1_startFrom (b) (y) hwf ⟨by omega, by omega⟩ ⟨by omega, by omega⟩) (cwV 2 hts gC_X11_247 rfl rfl rfl (by decide +kernel) ⟨Nat.le_of_ble_eq_true rfl, Nat.le_of_ble_eq_true rfl⟩) hK hW (kW_at rfl) rfl rfl hl.1 rfl (Nat.le_of_ble_eq_true rfl) dX11_again_31 ⟨by dsimp only; omega, by dsimp only; omega⟩ (fun v_ f_ H locs hp hW => ?_)
  obtain ⟨hpv, hpe⟩ := hp
  rw [hpe] at hW
  have hpv : v_ = some (.int (iI (S.1 44 b - y))) := hpv
  subst hpv
  have h44 := (hto b (by omega) (by omega)).1
  have hcA : (sIn b 0 5) = true := (by (try simp only [okG, sIn, Bool.and_eq_true, Bool.or_eq_true, Bool.and_eq_false_iff, Bool.or_eq_false_iff, decide_eq_true_eq, decide_eq_false_iff_not, Bool.not_eq_true, Bool.not_eq_false, Bool.not_eq_true', Bool.not_eq_false', Bool.not_true, Bool.not_false, Bool.true_and, Bool.and_true, Bool.false_and, Bool.and_false, Bool.true_or, Bool.or_true, Bool.false_or, Bool.or_false]); first | done | rfl | omega)
  have hcB : (okG S b y) = true := (by (try simp only [okG, sIn, Bool.and_eq_true, Bool.or_eq_true, Bool.and_eq_false_iff, Bool.or_eq_false_iff, decide_eq_true_eq, decide_eq_false_iff_not, Bool.not_eq_true, Bool.not_eq_false, Bool.not_eq_true', Bool.not_eq_false', Bool.not_true, Bool.not_false, Bool.true_and, Bool.and_true, Bool.false_and, Bool.and_false, Bool.true_or, Bool.or_true, Bool.false_or, Bool.or_false]); first | done | rfl | omega)
  have hcC : (true) = true := (by (try simp only [okG, sIn, Bool.and_eq_true, Bool.or_eq_true, Bool.and_eq_false_iff, Bool.or_eq_false_iff, decide_eq_true_eq, decide_eq_false_iff_not, Bool.not_eq_true, Bool.not_eq_false, Bool.not_eq_true', Bool.not_eq_false', Bool.not_true, Bool.not_false, Bool.true_and, Bool.and_true, Bool.false_and, Bool.and_false, Bool.true_or, Bool.or_true, Bool.false_or, Bool.or_false]); first | done | rfl | omega)
  have hsp : pAga S b y = (0, S.1 44 b - y, pI S 29 b y) := by unfold pAga; rw [sGo_00 hcA hcB hcC, if_pos (show ((sIn b 0 5) && (okG S b y) && (true)) = true by rw [hcA, hcB, hcC]; rfl)]; rw [agK_len, ← h44]
  have hNP : nP (pAga S b y).2.2 = nP S := by rw [hsp]; rfl
  have hNE : nE (pAga S b y).2.2 = nE S := by rw [hsp]; rfl
  exact W.widen (by first | omega | (dsimp only; omega)) (by first | omega | (dsimp only; omega)) (vx_ret (g_iret hx hb hr hW ⟨by rw [hsp], ad, bk, I, cX, qX, rfl, fun h => hP0 (by rw [← hNP]; exact h), fun h => hE0 (by rw [← hNE]; exact h), by rw [hsp], by rw [hsp]⟩ dX11_again_34 hlk))
set_option maxHeartbeats 4000000 in
set_option maxRecDepth 100000 in
theorem c_X11_doubles {l : Launch} {D : va_G} {cy : Nat → ClassId} {B0 : Nat} {ad bk : Nat → Nat} {S : ST} {I : Int → Bool} {cX qX : Int → Int64} {G : gF}  (hwf : wf S)  : gM l yX11_doubles vX11_doubles 0 0 D cy B0 [.ref (ad 0)] (kW cy ad bk S (I, cX, qX) G) (fun r g_ => r = some (.int (iI (S.1 26 0))) ∧ g_ = kW cy ad bk S (I, cX, qX) G) 0 0 := by
  refine g_start (cc := cX11_doubles) (maxL := 1) (ret := (some .int)) (by decide) rfl (Nat.le_of_ble_eq_true rfl) ?_
  intro p_ e_ s_ m_ be_ me_ co_ ls H locs K hr hlk hnm hK hW hl
  obtain ⟨hx, hb, hml, hown, hts⟩ := id K
  have hl : lv_has ls 1 [(0, .ref (ad 0))] := hl
  refine lv_aload_n hx hb dX11_doubles_0 rfl (lv_at hl 0 rfl) ?_
  refine g_get (ref := RX11) (T := TX11) (N := 1) (ci := 12) hx hb hts wsC_X11 hown hK hW (100000 + 0) (kW_at rfl) rfl 0 (by decide) (hts _ lC_X11_10) (fun x h => h) (v := .ref (ad 1)) rfl dX11_doubles_1 ?_
  refine g_get (ref := RX6) (T := TX6) (N := 8) (ci := 7) hx hb hts wsC_X6 hown hK hW (100000 + 1) (kW_at rfl) rfl 6 (by decide) (hts _ lC_X11_125) (fun x h => h) (v := .int (iI (S.1 26 (0)))) rfl dX11_doubles_4 ?_
  have w_1 := wf_26 hwf (0)
  exact g_iret hx hb hr hW ⟨rfl, rfl⟩ dX11_doubles_7 hlk
set_option maxHeartbeats 4000000 in
set_option maxRecDepth 100000 in
theorem c_X11_today {l : Launch} {D : va_G} {cy : Nat → ClassId} {B0 : Nat} {ad bk : Nat → Nat} {S : ST} {I : Int → Bool} {cX qX : Int → Int64} {G : gF}  (hwf : wf S)  : gM l yX11_today vX11_today 0 0 D cy B0 [.ref (ad 0)] (kW cy ad bk S (I, cX, qX) G) (fun r g_ => r = some (.int (iI (S.1 0 0))) ∧ g_ = kW cy ad bk S (I, cX, qX) G) 0 0 := by
  refine g_start (cc := cX11_today) (maxL := 1) (ret := (some .int)) (by decide) rfl (Nat.le_of_ble_eq_true rfl) ?_
  intro p_ e_ s_ m_ be_ me_ co_ ls H locs K hr hlk hnm hK hW hl
  obtain ⟨hx, hb, hml, hown, hts⟩ := id K
  have hl : lv_has ls 1 [(0, .ref (ad 0))] := hl
  refine lv_aload_n hx hb dX11_today_0 rfl (lv_at hl 0 rfl) ?_
  refine g_get (ref := RX11) (T := TX11) (N := 1) (ci := 12) hx hb hts wsC_X11 hown hK hW (100000 + 0) (kW_at rfl) rfl 0 (by decide) (hts _ lC_X11_10) (fun x h => h) (v := .ref (ad 1)) rfl dX11_today_1 ?_
  refine g_get (ref := RX6) (T := TX6) (N := 8) (ci := 7) hx hb hts wsC_X6 hown hK hW (100000 + 1) (kW_at rfl) rfl 0 (by decide) (hts _ lC_X11_71) (fun x h => h) (v := .ref (ad 2)) rfl dX11_today_4 ?_
  refine g_get (ref := RX4) (T := TX4) (N := 2) (ci := 5) hx hb hts wsC_X4 hown hK hW (100000 + 2) (kW_at rfl) rfl 0 (by decide) (hts _ lC_X11_178) (fun x h => h) (v := .int (iI (S.1 0 (0)))) rfl dX11_today_7 ?_
  have w_1 := wf_0 hwf (0)
  exact g_iret hx hb hr hW ⟨rfl, rfl⟩ dX11_today_10 hlk
set_option maxHeartbeats 4000000 in
set_option maxRecDepth 100000 in
theorem c_X11_payments {l : Launch} {D : va_G} {cy : Nat → ClassId} {B0 : Nat} {ad bk : Nat → Nat} {S : ST} {I : Int → Bool} {cX qX : Int → Int64} {G : gF}  (hwf : wf S)  : gM l yX11_payments vX11_payments 2 40 D cy B0 [.ref (ad 0)] (kW cy ad bk S (I, cX, qX) G) (fun r g_ => r = some (.int (iI (S.1 8 0))) ∧ g_ = kW cy ad bk S (I, cX, qX) G) 0 0 := by
  refine g_start (cc := cX11_payments) (maxL := 1) (ret := (some .int)) (by decide) rfl (Nat.le_of_ble_eq_true rfl) ?_
  intro p_ e_ s_ m_ be_ me_ co_ ls H locs K hr hlk hnm hK hW hl
  obtain ⟨hx, hb, hml, hown, hts⟩ := id K
  have hl : lv_has ls 1 [(0, .ref (ad 0))] := hl
  refine lv_aload_n hx hb dX11_payments_0 rfl (lv_at hl 0 rfl) ?_
  refine g_get (ref := RX11) (T := TX11) (N := 1) (ci := 12) hx hb hts wsC_X11 hown hK hW (100000 + 0) (kW_at rfl) rfl 0 (by decide) (hts _ lC_X11_10) (fun x h => h) (v := .ref (ad 1)) rfl dX11_payments_1 ?_
  refine g_get (ref := RX6) (T := TX6) (N := 8) (ci := 7) hx hb hts wsC_X6 hown hK hW (100000 + 1) (kW_at rfl) rfl 2 (by decide) (hts _ lC_X11_105) (fun x h => h) (v := .ref (ad 5)) rfl dX11_payments_4 ?_
  refine g_callV (i := 100000 + 5) (As := []) (rest := []) K (c_X8_count  hwf ) (cwV 0 hts gC_X11_210 rfl rfl rfl (by decide +kernel) ⟨Nat.le_of_ble_eq_true rfl, Nat.le_of_ble_eq_true rfl⟩) hK hW (kW_at rfl) rfl rfl hl.1 rfl (Nat.le_of_ble_eq_true rfl) dX11_payments_7 ⟨Nat.le_refl _, Nat.le_refl _⟩ (fun v_ f_ H locs hp hW => ?_)
  obtain ⟨hpv, hpe⟩ := hp
  rw [hpe] at hW
  have hpv : v_ = some (.int (iI (S.1 8 0))) := hpv
  subst hpv
  exact g_iret hx hb hr hW ⟨rfl, rfl⟩ dX11_payments_10 hlk
set_option maxHeartbeats 4000000 in
set_option maxRecDepth 100000 in
theorem c_X11_entries {l : Launch} {D : va_G} {cy : Nat → ClassId} {B0 : Nat} {ad bk : Nat → Nat} {S : ST} {I : Int → Bool} {cX qX : Int → Int64} {G : gF}  (hwf : wf S)  : gM l yX11_entries vX11_entries 2 40 D cy B0 [.ref (ad 0)] (kW cy ad bk S (I, cX, qX) G) (fun r g_ => r = some (.int (iI (S.1 31 0))) ∧ g_ = kW cy ad bk S (I, cX, qX) G) 0 0 := by
  refine g_start (cc := cX11_entries) (maxL := 1) (ret := (some .int)) (by decide) rfl (Nat.le_of_ble_eq_true rfl) ?_
  intro p_ e_ s_ m_ be_ me_ co_ ls H locs K hr hlk hnm hK hW hl
  obtain ⟨hx, hb, hml, hown, hts⟩ := id K
  have hl : lv_has ls 1 [(0, .ref (ad 0))] := hl
  refine lv_aload_n hx hb dX11_entries_0 rfl (lv_at hl 0 rfl) ?_
  refine g_get (ref := RX11) (T := TX11) (N := 1) (ci := 12) hx hb hts wsC_X11 hown hK hW (100000 + 0) (kW_at rfl) rfl 0 (by decide) (hts _ lC_X11_10) (fun x h => h) (v := .ref (ad 1)) rfl dX11_entries_1 ?_
  refine g_get (ref := RX6) (T := TX6) (N := 8) (ci := 7) hx hb hts wsC_X6 hown hK hW (100000 + 1) (kW_at rfl) rfl 1 (by decide) (hts _ lC_X11_25) (fun x h => h) (v := .ref (ad 3)) rfl dX11_entries_4 ?_
  refine g_get (ref := RX0) (T := TX0) (N := 5) (ci := 1) hx hb hts wsC_X0 hown hK hW (100000 + 3) (kW_at rfl) rfl 0 (by decide) (hts _ lC_X11_197) (fun x h => h) (v := .ref (ad 4)) rfl dX11_entries_7 ?_
  refine g_callV (i := 100000 + 4) (As := []) (rest := []) K (c_X3_count  hwf ) (cwV 0 hts gC_X11_223 rfl rfl rfl (by decide +kernel) ⟨Nat.le_of_ble_eq_true rfl, Nat.le_of_ble_eq_true rfl⟩) hK hW (kW_at rfl) rfl rfl hl.1 rfl (Nat.le_of_ble_eq_true rfl) dX11_entries_10 ⟨Nat.le_refl _, Nat.le_refl _⟩ (fun v_ f_ H locs hp hW => ?_)
  obtain ⟨hpv, hpe⟩ := hp
  rw [hpe] at hW
  have hpv : v_ = some (.int (iI (S.1 31 0))) := hpv
  subst hpv
  exact g_iret hx hb hr hW ⟨rfl, rfl⟩ dX11_entries_13 hlk
