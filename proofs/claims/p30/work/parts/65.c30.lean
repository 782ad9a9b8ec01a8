theorem opT_f (S : ST) (b u c v nm h : Int) (rl : Bool) (d : Int) (st : Bool) {f : Nat} (hf : f < 8 ∨ (25 ≤ f ∧ f ≤ 39) ∨ 43 ≤ f) : (gCome (sCom1 S b u c v nm h rl d st) (S.1 8 0)).1 f = S.1 f := by
  unfold gCome sCom1
  repeat rw [pI_f _ _ _ (by omega)]
theorem opT_j (S : ST) (b u c v nm h : Int) (rl : Bool) (d : Int) (st : Bool) {f : Nat} {j : Int} (hf : 9 ≤ f) (hj : j ≠ S.1 8 0) : (gCome (sCom1 S b u c v nm h rl d st) (S.1 8 0)).1 f j = S.1 f j := by
  unfold gCome sCom1
  repeat rw [pI_n _ _ _ _ (Or.inr hj)]
  rw [pI_f _ _ _ (by omega)]
theorem opT (S : ST) (b u c v nm h : Int) (rl : Bool) (d : Int) (st : Bool) : opn S (gCome (sCom1 S b u c v nm h rl d st) (S.1 8 0)) := by
  refine ⟨rfl, ?_, fun f hf => opT_f S b u c v nm h rl d st hf, fun f j hf hj => opT_j S b u c v nm h rl d st hf hj⟩
  simp [gCome, sCom1, pI]
theorem opT_t (S : ST) (b u c v nm h : Int) (rl : Bool) (d : Int) (st : Bool) : trmF (gCome (sCom1 S b u c v nm h rl d st) (S.1 8 0)) (S.1 8 0) = [.int (iI b), .int (iI u), .int (iI c), .int (iI v), .int (iI nm), .int (iI h), .int (iI (bI rl)), .int (iI d), .int (iI (bI st))] := by
  simp [trmF, gCome, sCom1, pI]
theorem opT_p (ad : Nat → Nat) (S : ST) (b u c v nm h : Int) (rl : Bool) (d : Int) (st : Bool) (h19 : S.1 19 (S.1 8 0) = 0) (h24 : S.1 24 (S.1 8 0) = 0) : payF ad (gCome (sCom1 S b u c v nm h rl d st) (S.1 8 0)) (S.1 8 0) = [.int (iI (S.1 8 0)), .ref (ad (1001 + 2 * (S.1 8 0).toNat)), .int (iI 0), .null, .int (iI (-1)), .int (iI 0), .int (iI (-1)), .int (iI (-1)), .int (iI 0)] := by
  simp [payF, gCome, sCom1, pI, h19, h24, pR]
theorem lsP_open {ad : Nat → Nat} {S T : ST} {q t q2 e : Nat} (hw : wf S) (ho : opn S T) : lsP (adP ad (nP S) q t q2) T e = if e = nP S then some q else lsP ad S e := by
  obtain ⟨eP, _⟩ := opn_n hw ho
  have hn := nP_le hw
  unfold lsP
  rw [eP]
  by_cases h : e = nP S
  · rw [if_pos h, if_pos (by omega), h, adP_q]
  · rw [if_neg h]
    by_cases h2 : e < nP S
    · rw [if_pos h2, if_pos (by omega), adP_o ad (nP S) q t q2 (by omega) (by omega) (by omega) (by omega)]
    · rw [if_neg h2, if_neg (by omega)]
theorem lsP_el {cy : Nat → ClassId} {ad bk : Nat → Nat} {S : ST} {X : CX} {G : gF} (hw : wf S) : ∀ (x y : Nat), lsP ad S x = some y → ∃ (k : Nat) (vs : List Value), kW cy ad bk S X G k = some (y, .inr (8, vs)) ∧ k ≠ 100000 + 9 := by
  intro x y hxy
  unfold lsP at hxy
  split at hxy
  · rename_i hx
    cases hxy
    have h := kW_at (cy := cy) (ad := ad) (bk := bk) (G := G) (kC_pay (cy := cy) (ad := ad) (bk := bk) (S := S) (X := X) (k := (x : Int)) hw (by omega) (by unfold nP at hx; omega))
    exact ⟨100000 + (1000 + 2 * x), _, h, by omega⟩
  · cases hxy
set_option maxHeartbeats 4000000 in
set_option maxRecDepth 100000 in
theorem c_X8_open_r {l : Launch} {D : va_G} {cy : Nat → ClassId} {B0 : Nat} {ad bk : Nat → Nat} {S : ST} {I : Int → Bool} {cX qX : Int → Int64} {G : gF} (b : Int) (u : Int) (c : Int) (v : Int) (nm : Int) (h : Int) (rl : Bool) (d : Int) (st : Bool) (hwf : wf S) {t : Nat} (hlr : ∀ k : Int, 0 ≤ k → k < S.1 8 0 → S.1 21 k < S.1 8 0) (h60 : S.1 8 0 < 60) (h19 : S.1 19 (S.1 8 0) = 0) (h24 : S.1 24 (S.1 8 0) = 0) (hG2 : G 50002 = none) (hG3 : G 50003 = some (t, .inr (11, [.int (iI b), .int (iI u), .int (iI c), .int (iI v), .int (iI nm), .int (iI h), .int (iI (bI rl)), .int (iI d), .int (iI (bI st))]))) (hn0 : nP S ≠ 0) (hnf : ¬ nP S = kcap (nP S)) : gM l yX8_open vX8_open 7 156 D cy B0 [.ref (ad 5), .ref (t)] (kW cy ad bk S (I, cX, qX) G) (fun r g_ => ∃ ad2 : Nat → Nat, (∀ i : Nat, i ≠ 11 → i ≠ 93 → i < 1000 + 2 * nP S → ad2 i = ad i) ∧ ad2 (1001 + 2 * (S.1 8 0).toNat) = t ∧ r = some (.ref (ad2 (1000 + 2 * (S.1 8 0).toNat))) ∧ g_ = kW cy ad2 bk (gCome (sCom1 S b u c v nm h rl d st) (S.1 8 0)) (I, cX, qX) (gno G 50003)) 2 139 := by
  refine g_start (cc := cX8_open) (maxL := 3) (ret := (some (.object "MillstreamPayments$Payment"))) (by decide) rfl (Nat.le_of_ble_eq_true rfl) ?_
  intro p_ e_ s_ m_ be_ me_ co_ ls H locs K hr hlk hnm hK hW hl
  obtain ⟨hx, hb, hml, hown, hts⟩ := id K
  have hl : lv_has ls 3 [(0, .ref (ad 5)), (1, .ref (t))] := hl
  have h8 := wf_8 hwf 0
  have hcl := kcap_le (nP S)
  have hp6 : nP S < 60 := by unfold nP; omega
  have hcap := kcap_pos hn0
  refine g_new hx hb hts wsC_X7 tyX7 tyX7_ok hown (hts _ hC_X8_41) (hts _ nC_X7) (hts _ iC_X7) hK hW 50002 (ci := 8) rfl (fs := [.int (iI 0), .null, .int (iI 0), .null, .int (iI 0), .int (iI 0), .int (iI 0), .int (iI 0), .int (iI 0)]) (fun j hj => by rcases (show j = 0 ∨ j = 1 ∨ j = 2 ∨ j = 3 ∨ j = 4 ∨ j = 5 ∨ j = 6 ∨ j = 7 ∨ j = 8 by omega) with rfl | rfl | rfl | rfl | rfl | rfl | rfl | rfl | rfl <;> rfl) (by first | omega | (dsimp only; omega)) (by first | omega | (dsimp only; omega)) dX8_open_0 (fun q H hW hne => ?_)
  rw [kW_gG (by decide)] at hW
  refine lv_dup hx hb dX8_open_3 rfl ?_
  refine lv_aload_n hx hb dX8_open_4 rfl (lv_at hl 0 rfl) ?_
  refine g_get (ref := RX8) (T := TX8) (N := 2) (ci := 9) hx hb hts wsC_X8 hown hK hW (100000 + 5) (kW_at rfl) rfl 0 (by decide) (hts _ lC_X8_12) (fun x h => h) (v := .ref (ad 9)) rfl dX8_open_5 ?_
  refine g_callV (i := 100000 + 9) (As := []) (rest := [.ref (q), .ref (q)]) K (c_Jx4a65c_size_8abf5 (i := 100000 + 9) (j := 0) (n := 0) (g := fun _ => none) (kW_at rfl)) (cwV 0 hts gC_X8_33 rfl rfl rfl (by decide +kernel) ⟨Nat.le_of_ble_eq_true rfl, Nat.le_of_ble_eq_true rfl⟩) hK hW (kW_at rfl) rfl rfl hl.1 rfl (Nat.le_of_ble_eq_true rfl) dX8_open_8 ⟨by dsimp only; omega, by dsimp only; omega⟩ (fun v_ f_ H locs hp hW => ?_)
  obtain ⟨hpv, hpe⟩ := hp
  rw [hpe] at hW
  have hpv : v_ = some (.int (iI (S.1 8 (0)))) := hpv
  subst hpv
  have w_1 := wf_8 hwf 0
  refine lv_aload_n hx hb dX8_open_11 rfl (lv_at hl 1 rfl) ?_
  refine g_callI (As := [.int (iI (S.1 8 (0))), .ref (t)]) (rest := [.ref (q)]) K (c_X7_init (i := 50002) (S.1 8 0) t (by rw [kW_G (by decide)]; exact gup_s _ _ _ _)) (cwI 2 hts gC_X7_init rfl rfl rfl (hts _ iC_X7) (hts _ gC_X8_43) (hts _ sC_X7_init) rfl (by decide +kernel) ⟨Nat.le_of_ble_eq_true rfl, Nat.le_of_ble_eq_true rfl⟩) hK hW rfl hl.1 rfl (Nat.le_of_ble_eq_true rfl) dX8_open_12 ⟨by dsimp only; omega, by dsimp only; omega⟩ (fun v_ f_ H locs hp hW => ?_)
  obtain ⟨hpv, hpe⟩ := hp
  rw [kW_gG (by decide), gup_gup] at hpe
  rw [hpe] at hW
  subst hpv
  refine lv_astore_n (lv' := [(2, .ref (q)), (0, .ref (ad 5)), (1, .ref (t))]) hx hb dX8_open_15 rfl hl (by decide) rfl (fun ls hl => ?_)
  refine lv_aload_n hx hb dX8_open_16 rfl (lv_at hl 1 rfl) ?_
  refine g_get (ref := RX8) (T := TX8) (N := 2) (ci := 9) hx hb hts wsC_X8 hown hK hW (100000 + 5) (kW_at rfl) rfl 0 (by decide) (hts _ lC_X8_12) (fun x h => h) (v := .ref (ad 9)) rfl dX8_open_17 ?_
  refine lv_aload_n hx hb dX8_open_20 rfl (lv_at hl 0 rfl) ?_
  refine g_callV (i := 100000 + 9) (As := [.ref (q)]) (rest := []) K (c_Jx4a65c_add_9ea2d_r (i := 100000 + 9) (j := 100000 + 11) (k := 50002) (kW_at rfl) (kW_at (kC_l11 hcap)) (by decide) (by omega) ⟨h8.1, by have := kcap_ge (nP S); unfold nP at *; omega⟩ (ci := 8) rfl (List.mem_of_getElem? (i := 10) rfl) (by rw [kW_G (by decide)]; exact gup_s _ _ _ _) (by decide) (by decide)) (cwV 1 hts gC_X8_46 rfl rfl rfl (by decide +kernel) ⟨Nat.le_of_ble_eq_true rfl, Nat.le_of_ble_eq_true rfl⟩) hK hW (kW_at rfl) rfl rfl hl.1 rfl (Nat.le_of_ble_eq_true rfl) dX8_open_21 ⟨by dsimp only; omega, by dsimp only; omega⟩ (fun v_ f_ H locs hp hW => ?_)
  obtain ⟨hpv, hpe⟩ := hp
  rw [hpe] at hW
  subst hpv
  have hrow : va_up (lsP ad S) (S.1 8 0).toNat (some q) = lsP (adP ad (nP S) q t (ad 11)) (gCome (sCom1 S b u c v nm h rl d st) (S.1 8 0)) := by funext x; rw [lsP_open hwf (opT S b u c v nm h rl d st)]; rfl
  have hkc : kcap (nP S) = kcap (nP S + 1) := by conv => rhs; unfold kcap; rw [if_neg hnf]
  have hpf : payF (adP ad (nP S) q t (ad 11)) (gCome (sCom1 S b u c v nm h rl d st) (S.1 8 0)) (S.1 8 0) = [.int (iI (S.1 8 0)), .ref t, .int (iI (0)), .null, .int (iI (-1)), .int (iI (0)), .int (iI (-1)), .int (iI (-1)), .int (iI (0))] := by rw [opT_p _ S b u c v nm h rl d st h19 h24, show adP ad (nP S) q t (ad 11) (1001 + 2 * (S.1 8 0).toNat) = t from adP_t ..]
  rw [hrow, hkc] at hW
  rw [← hpf] at hW
  have hW := gW_open hwf hlr (opT S b u c v nm h rl d st) h60 hG2 (by rw [opT_t]; exact hG3) hW
  refine lv_pop hx hb dX8_open_24 rfl ?_
  refine lv_aload_n hx hb dX8_open_25 rfl (lv_at hl 0 rfl) ?_
  exact W.widen (by first | omega | (dsimp only; omega)) (by first | omega | (dsimp only; omega)) (g_aret hx hb hr (Or.inr ⟨_, rfl⟩) hW ⟨adP ad (nP S) q t (ad 11), fun i h1 h2 h3 => adP_o ad (nP S) q t (ad 11) (by omega) (by omega) h1 h2, adP_t .., by rw [show adP ad (nP S) q t (ad 11) (1000 + 2 * (S.1 8 0).toNat) = q from adP_q ..], rfl⟩ dX8_open_26 hlk)
set_option maxHeartbeats 4000000 in
set_option maxRecDepth 100000 in
theorem c_X8_open_f {l : Launch} {D : va_G} {cy : Nat → ClassId} {B0 : Nat} {ad bk : Nat → Nat} {S : ST} {I : Int → Bool} {cX qX : Int → Int64} {G : gF} (b : Int) (u : Int) (c : Int) (v : Int) (nm : Int) (h : Int) (rl : Bool) (d : Int) (st : Bool) (hwf : wf S) {t : Nat} (hlr : ∀ k : Int, 0 ≤ k → k < S.1 8 0 → S.1 21 k < S.1 8 0) (h60 : S.1 8 0 < 60) (h19 : S.1 19 (S.1 8 0) = 0) (h24 : S.1 24 (S.1 8 0) = 0) (hG2 : G 50002 = none) (hG3 : G 50003 = some (t, .inr (11, [.int (iI b), .int (iI u), .int (iI c), .int (iI v), .int (iI nm), .int (iI h), .int (iI (bI rl)), .int (iI d), .int (iI (bI st))]))) (hn0 : nP S ≠ 0) (hnf : nP S = kcap (nP S)) : gM l yX8_open vX8_open 7 156 D cy B0 [.ref (ad 5), .ref (t)] (kW cy ad bk S (I, cX, qX) G) (fun r g_ => ∃ ad2 : Nat → Nat, (∀ i : Nat, i ≠ 11 → i ≠ 93 → i < 1000 + 2 * nP S → ad2 i = ad i) ∧ ad2 (1001 + 2 * (S.1 8 0).toNat) = t ∧ r = some (.ref (ad2 (1000 + 2 * (S.1 8 0).toNat))) ∧ g_ = kW cy ad2 bk (gCome (sCom1 S b u c v nm h rl d st) (S.1 8 0)) (I, cX, qX) (gno G 50003)) 2 139 := by
  refine g_start (cc := cX8_open) (maxL := 3) (ret := (some (.object "MillstreamPayments$Payment"))) (by decide) rfl (Nat.le_of_ble_eq_true rfl) ?_
  intro p_ e_ s_ m_ be_ me_ co_ ls H locs K hr hlk hnm hK hW hl
  obtain ⟨hx, hb, hml, hown, hts⟩ := id K
  have hl : lv_has ls 3 [(0, .ref (ad 5)), (1, .ref (t))] := hl
  have h8 := wf_8 hwf 0
  have hcl := kcap_le (nP S)
  have hp6 : nP S < 60 := by unfold nP; omega
  have hcap := kcap_pos hn0
  have hsz : S.1 8 0 = (nP S : Int) := by unfold nP; omega
  refine g_new hx hb hts wsC_X7 tyX7 tyX7_ok hown (hts _ hC_X8_41) (hts _ nC_X7) (hts _ iC_X7) hK hW 50002 (ci := 8) rfl (fs := [.int (iI 0), .null, .int (iI 0), .null, .int (iI 0), .int (iI 0), .int (iI 0), .int (iI 0), .int (iI 0)]) (fun j hj => by rcases (show j = 0 ∨ j = 1 ∨ j = 2 ∨ j = 3 ∨ j = 4 ∨ j = 5 ∨ j = 6 ∨ j = 7 ∨ j = 8 by omega) with rfl | rfl | rfl | rfl | rfl | rfl | rfl | rfl | rfl <;> rfl) (by first | omega | (dsimp only; omega)) (by first | omega | (dsimp only; omega)) dX8_open_0 (fun q H hW hne => ?_)
  rw [kW_gG (by decide)] at hW
  refine lv_dup hx hb dX8_open_3 rfl ?_
  refine lv_aload_n hx hb dX8_open_4 rfl (lv_at hl 0 rfl) ?_
  refine g_get (ref := RX8) (T := TX8) (N := 2) (ci := 9) hx hb hts wsC_X8 hown hK hW (100000 + 5) (kW_at rfl) rfl 0 (by decide) (hts _ lC_X8_12) (fun x h => h) (v := .ref (ad 9)) rfl dX8_open_5 ?_
  refine g_callV (i := 100000 + 9) (As := []) (rest := [.ref (q), .ref (q)]) K (c_Jx4a65c_size_8abf5 (i := 100000 + 9) (j := 0) (n := 0) (g := fun _ => none) (kW_at rfl)) (cwV 0 hts gC_X8_33 rfl rfl rfl (by decide +kernel) ⟨Nat.le_of_ble_eq_true rfl, Nat.le_of_ble_eq_true rfl⟩) hK hW (kW_at rfl) rfl rfl hl.1 rfl (Nat.le_of_ble_eq_true rfl) dX8_open_8 ⟨by dsimp only; omega, by dsimp only; omega⟩ (fun v_ f_ H locs hp hW => ?_)
  obtain ⟨hpv, hpe⟩ := hp
  rw [hpe] at hW
  have hpv : v_ = some (.int (iI (S.1 8 (0)))) := hpv
  subst hpv
  have w_1 := wf_8 hwf 0
  refine lv_aload_n hx hb dX8_open_11 rfl (lv_at hl 1 rfl) ?_
  refine g_callI (As := [.int (iI (S.1 8 (0))), .ref (t)]) (rest := [.ref (q)]) K (c_X7_init (i := 50002) (S.1 8 0) t (by rw [kW_G (by decide)]; exact gup_s _ _ _ _)) (cwI 2 hts gC_X7_init rfl rfl rfl (hts _ iC_X7) (hts _ gC_X8_43) (hts _ sC_X7_init) rfl (by decide +kernel) ⟨Nat.le_of_ble_eq_true rfl, Nat.le_of_ble_eq_true rfl⟩) hK hW rfl hl.1 rfl (Nat.le_of_ble_eq_true rfl) dX8_open_12 ⟨by dsimp only; omega, by dsimp only; omega⟩ (fun v_ f_ H locs hp hW => ?_)
  obtain ⟨hpv, hpe⟩ := hp
  rw [kW_gG (by decide), gup_gup] at hpe
  rw [hpe] at hW
  subst hpv
  refine lv_astore_n (lv' := [(2, .ref (q)), (0, .ref (ad 5)), (1, .ref (t))]) hx hb dX8_open_15 rfl hl (by decide) rfl (fun ls hl => ?_)
  refine lv_aload_n hx hb dX8_open_16 rfl (lv_at hl 1 rfl) ?_
  refine g_get (ref := RX8) (T := TX8) (N := 2) (ci := 9) hx hb hts wsC_X8 hown hK hW (100000 + 5) (kW_at rfl) rfl 0 (by decide) (hts _ lC_X8_12) (fun x h => h) (v := .ref (ad 9)) rfl dX8_open_17 ?_
  refine lv_aload_n hx hb dX8_open_20 rfl (lv_at hl 0 rfl) ?_
  refine g_callV (i := 100000 + 9) (As := [.ref (q)]) (rest := []) K (c_Jx4a65c_add_9ea2d_f (i := 100000 + 9) (j := 100000 + 11) (j2 := 100015) (n := nP S) (k := 50002) (by have h9 := kW_at (cy := cy) (ad := ad) (bk := bk) (S := S) (X := (I, cX, qX)) (G := gup G 50002 q (.inr (8, [.int (iI (S.1 8 0)), .ref t, .int (iI (0)), .null, .int (iI (-1)), .int (iI (0)), .int (iI (-1)), .int (iI (-1)), .int (iI (0))]))) (i := 9) rfl; rw [hsz] at h9; exact h9) (by have h9 := kW_at (cy := cy) (ad := ad) (bk := bk) (S := S) (X := (I, cX, qX)) (G := gup G 50002 q (.inr (8, [.int (iI (S.1 8 0)), .ref t, .int (iI (0)), .null, .int (iI (-1)), .int (iI (0)), .int (iI (-1)), .int (iI (-1)), .int (iI (0))]))) (kC_l11 hcap); rw [← hnf] at h9; exact h9) (by decide) (by have := kcap_10 hn0; omega) (by omega) rfl (by decide) (ci := 8) rfl (List.mem_of_getElem? (i := 10) rfl) (lsP_el hwf) (by decide) (by rw [kW_G (by decide)]; exact gup_s _ _ _ _) (by decide) (by decide)) (cwV 1 hts gC_X8_46 rfl rfl rfl (by decide +kernel) ⟨Nat.le_of_ble_eq_true rfl, Nat.le_of_ble_eq_true rfl⟩) hK hW (kW_at rfl) rfl rfl hl.1 rfl (Nat.le_of_ble_eq_true rfl) dX8_open_21 ⟨by dsimp only; omega, by dsimp only; omega⟩ (fun v_ f_ H locs hp hW => ?_)
  obtain ⟨q2, hpv, hpe⟩ := hp
  rw [hpe] at hW
  subst hpv
  have hrow : va_up (va_cpy (lsP ad S) (fun _ => none) 0 0 (nP S)) ((nP S : Int)).toNat (some q) = lsP (adP ad (nP S) q t q2) (gCome (sCom1 S b u c v nm h rl d st) (S.1 8 0)) := by
    funext x
    rw [lsP_open hwf (opT S b u c v nm h rl d st)]
    show (if x = nP S then some q else va_cpy (lsP ad S) (fun _ => none) 0 0 (nP S) x) = _
    by_cases hx : x = nP S
    · rw [if_pos hx, if_pos hx]
    · rw [if_neg hx, if_neg hx]
      unfold va_cpy
      by_cases hx2 : x < nP S
      · rw [if_pos (by omega)]; congr 1; omega
      · rw [if_neg (by omega)]; unfold lsP; rw [if_neg hx2]
  have hkc : nP S + nP S / 2 = kcap (nP S + 1) := by conv => rhs; unfold kcap; rw [if_pos hnf, if_neg hn0]
  have hpf : payF (adP ad (nP S) q t q2) (gCome (sCom1 S b u c v nm h rl d st) (S.1 8 0)) (S.1 8 0) = [.int (iI (S.1 8 0)), .ref t, .int (iI (0)), .null, .int (iI (-1)), .int (iI (0)), .int (iI (-1)), .int (iI (-1)), .int (iI (0))] := by rw [opT_p _ S b u c v nm h rl d st h19 h24, show adP ad (nP S) q t q2 (1001 + 2 * (S.1 8 0).toNat) = t from adP_t ..]
  rw [hrow, hkc, ← hsz] at hW
  rw [← hpf] at hW
  have hW := gW_open hwf hlr (opT S b u c v nm h rl d st) h60 hG2 (by rw [opT_t]; exact hG3) hW
  refine lv_pop hx hb dX8_open_24 rfl ?_
  refine lv_aload_n hx hb dX8_open_25 rfl (lv_at hl 0 rfl) ?_
  exact W.widen (by first | omega | (dsimp only; omega)) (by first | omega | (dsimp only; omega)) (g_aret hx hb hr (Or.inr ⟨_, rfl⟩) hW ⟨adP ad (nP S) q t q2, fun i h1 h2 h3 => adP_o ad (nP S) q t q2 (by omega) (by omega) h1 h2, adP_t .., by rw [show adP ad (nP S) q t q2 (1000 + 2 * (S.1 8 0).toNat) = q from adP_q ..], rfl⟩ dX8_open_26 hlk)
set_option maxHeartbeats 4000000 in
set_option maxRecDepth 100000 in
theorem c_X8_open_0 {l : Launch} {D : va_G} {cy : Nat → ClassId} {B0 : Nat} {ad bk : Nat → Nat} {S : ST} {I : Int → Bool} {cX qX : Int → Int64} {G : gF} (b : Int) (u : Int) (c : Int) (v : Int) (nm : Int) (h : Int) (rl : Bool) (d : Int) (st : Bool) (hwf : wf S) {t : Nat} (hlr : ∀ k : Int, 0 ≤ k → k < S.1 8 0 → S.1 21 k < S.1 8 0) (h60 : S.1 8 0 < 60) (h19 : S.1 19 (S.1 8 0) = 0) (h24 : S.1 24 (S.1 8 0) = 0) (hG2 : G 50002 = none) (hG3 : G 50003 = some (t, .inr (11, [.int (iI b), .int (iI u), .int (iI c), .int (iI v), .int (iI nm), .int (iI h), .int (iI (bI rl)), .int (iI d), .int (iI (bI st))]))) (hn0 : nP S = 0) (hP0 : nP S = 0 → ad 11 = D.1 21) : gM l yX8_open vX8_open 7 156 D cy B0 [.ref (ad 5), .ref (t)] (kW cy ad bk S (I, cX, qX) G) (fun r g_ => ∃ ad2 : Nat → Nat, (∀ i : Nat, i ≠ 11 → i ≠ 93 → i < 1000 + 2 * nP S → ad2 i = ad i) ∧ ad2 (1001 + 2 * (S.1 8 0).toNat) = t ∧ r = some (.ref (ad2 (1000 + 2 * (S.1 8 0).toNat))) ∧ g_ = kW cy ad2 bk (gCome (sCom1 S b u c v nm h rl d st) (S.1 8 0)) (I, cX, qX) (gno G 50003)) 2 139 := by
  refine g_start (cc := cX8_open) (maxL := 3) (ret := (some (.object "MillstreamPayments$Payment"))) (by decide) rfl (Nat.le_of_ble_eq_true rfl) ?_
  intro p_ e_ s_ m_ be_ me_ co_ ls H locs K hr hlk hnm hK hW hl
  obtain ⟨hx, hb, hml, hown, hts⟩ := id K
  have hl : lv_has ls 3 [(0, .ref (ad 5)), (1, .ref (t))] := hl
  have h8 := wf_8 hwf 0
  have hcl := kcap_le (nP S)
  have hp6 : nP S < 60 := by unfold nP; omega
  have hsz : S.1 8 0 = 0 := by unfold nP at hn0; omega
  refine g_new hx hb hts wsC_X7 tyX7 tyX7_ok hown (hts _ hC_X8_41) (hts _ nC_X7) (hts _ iC_X7) hK hW 50002 (ci := 8) rfl (fs := [.int (iI 0), .null, .int (iI 0), .null, .int (iI 0), .int (iI 0), .int (iI 0), .int (iI 0), .int (iI 0)]) (fun j hj => by rcases (show j = 0 ∨ j = 1 ∨ j = 2 ∨ j = 3 ∨ j = 4 ∨ j = 5 ∨ j = 6 ∨ j = 7 ∨ j = 8 by omega) with rfl | rfl | rfl | rfl | rfl | rfl | rfl | rfl | rfl <;> rfl) (by first | omega | (dsimp only; omega)) (by first | omega | (dsimp only; omega)) dX8_open_0 (fun q H hW hne => ?_)
  rw [kW_gG (by decide)] at hW
  refine lv_dup hx hb dX8_open_3 rfl ?_
  refine lv_aload_n hx hb dX8_open_4 rfl (lv_at hl 0 rfl) ?_
  refine g_get (ref := RX8) (T := TX8) (N := 2) (ci := 9) hx hb hts wsC_X8 hown hK hW (100000 + 5) (kW_at rfl) rfl 0 (by decide) (hts _ lC_X8_12) (fun x h => h) (v := .ref (ad 9)) rfl dX8_open_5 ?_
  refine g_callV (i := 100000 + 9) (As := []) (rest := [.ref (q), .ref (q)]) K (c_Jx4a65c_size_8abf5 (i := 100000 + 9) (j := 0) (n := 0) (g := fun _ => none) (kW_at rfl)) (cwV 0 hts gC_X8_33 rfl rfl rfl (by decide +kernel) ⟨Nat.le_of_ble_eq_true rfl, Nat.le_of_ble_eq_true rfl⟩) hK hW (kW_at rfl) rfl rfl hl.1 rfl (Nat.le_of_ble_eq_true rfl) dX8_open_8 ⟨by dsimp only; omega, by dsimp only; omega⟩ (fun v_ f_ H locs hp hW => ?_)
  obtain ⟨hpv, hpe⟩ := hp
  rw [hpe] at hW
  have hpv : v_ = some (.int (iI (S.1 8 (0)))) := hpv
  subst hpv
  have w_1 := wf_8 hwf 0
  refine lv_aload_n hx hb dX8_open_11 rfl (lv_at hl 1 rfl) ?_
  refine g_callI (As := [.int (iI (S.1 8 (0))), .ref (t)]) (rest := [.ref (q)]) K (c_X7_init (i := 50002) (S.1 8 0) t (by rw [kW_G (by decide)]; exact gup_s _ _ _ _)) (cwI 2 hts gC_X7_init rfl rfl rfl (hts _ iC_X7) (hts _ gC_X8_43) (hts _ sC_X7_init) rfl (by decide +kernel) ⟨Nat.le_of_ble_eq_true rfl, Nat.le_of_ble_eq_true rfl⟩) hK hW rfl hl.1 rfl (Nat.le_of_ble_eq_true rfl) dX8_open_12 ⟨by dsimp only; omega, by dsimp only; omega⟩ (fun v_ f_ H locs hp hW => ?_)
  obtain ⟨hpv, hpe⟩ := hp
  rw [kW_gG (by decide), gup_gup] at hpe
  rw [hpe] at hW
  subst hpv
  refine lv_astore_n (lv' := [(2, .ref (q)), (0, .ref (ad 5)), (1, .ref (t))]) hx hb dX8_open_15 rfl hl (by decide) rfl (fun ls hl => ?_)
  refine lv_aload_n hx hb dX8_open_16 rfl (lv_at hl 1 rfl) ?_
  refine g_get (ref := RX8) (T := TX8) (N := 2) (ci := 9) hx hb hts wsC_X8 hown hK hW (100000 + 5) (kW_at rfl) rfl 0 (by decide) (hts _ lC_X8_12) (fun x h => h) (v := .ref (ad 9)) rfl dX8_open_17 ?_
  refine lv_aload_n hx hb dX8_open_20 rfl (lv_at hl 0 rfl) ?_
  refine g_callV (i := 100000 + 9) (As := [.ref (q)]) (rest := []) K (c_Jx4a65c_add_9ea2d_0 (i := 100000 + 9) (j := 100000 + 11) (k := 50002) (by have h9 := kW_at (cy := cy) (ad := ad) (bk := bk) (S := S) (X := (I, cX, qX)) (G := gup G 50002 q (.inr (8, [.int (iI (S.1 8 0)), .ref t, .int (iI (0)), .null, .int (iI (-1)), .int (iI (0)), .int (iI (-1)), .int (iI (-1)), .int (iI (0))]))) (i := 9) rfl; rw [hP0 hn0, hsz] at h9; exact h9) (by decide) (ci := 8) rfl (List.mem_of_getElem? (i := 10) rfl) (by rw [kW_G (by decide)]; exact gup_s _ _ _ _) (by decide) (by decide)) (cwV 1 hts gC_X8_46 rfl rfl rfl (by decide +kernel) ⟨Nat.le_of_ble_eq_true rfl, Nat.le_of_ble_eq_true rfl⟩) hK hW (kW_at rfl) rfl rfl hl.1 rfl (Nat.le_of_ble_eq_true rfl) dX8_open_21 ⟨by dsimp only; omega, by dsimp only; omega⟩ (fun v_ f_ H locs hp hW => ?_)
  obtain ⟨q2, hpv, hpe⟩ := hp
  rw [hpe] at hW
  subst hpv
  have hrow : va_up (fun _ => none) (0 : Int).toNat (some q) = lsP (adP ad (nP S) q t q2) (gCome (sCom1 S b u c v nm h rl d st) (S.1 8 0)) := by
    funext x
    rw [lsP_open hwf (opT S b u c v nm h rl d st), hn0]
    show (if x = 0 then some q else none) = _
    by_cases hx : x = 0
    · rw [if_pos hx, if_pos hx]
    · rw [if_neg hx, if_neg hx]; unfold lsP; rw [if_neg (by omega)]
  have hkc : 10 = kcap (nP S + 1) := by rw [hn0]; rfl
  have hpf : payF (adP ad (nP S) q t q2) (gCome (sCom1 S b u c v nm h rl d st) (S.1 8 0)) (S.1 8 0) = [.int (iI (S.1 8 0)), .ref t, .int (iI (0)), .null, .int (iI (-1)), .int (iI (0)), .int (iI (-1)), .int (iI (-1)), .int (iI (0))] := by rw [opT_p _ S b u c v nm h rl d st h19 h24, show adP ad (nP S) q t q2 (1001 + 2 * (S.1 8 0).toNat) = t from adP_t ..]
  rw [hrow, hkc, show iI ((0 : Int) + 1) = iI (S.1 8 0 + 1) by rw [hsz]] at hW
  rw [← hpf] at hW
  have hW := gW_open hwf hlr (opT S b u c v nm h rl d st) h60 hG2 (by rw [opT_t]; exact hG3) hW
  refine lv_pop hx hb dX8_open_24 rfl ?_
  refine lv_aload_n hx hb dX8_open_25 rfl (lv_at hl 0 rfl) ?_
  exact W.widen (by first | omega | (dsimp only; omega)) (by first | omega | (dsimp only; omega)) (g_aret hx hb hr (Or.inr ⟨_, rfl⟩) hW ⟨adP ad (nP S) q t q2, fun i h1 h2 h3 => adP_o ad (nP S) q t q2 (by omega) (by omega) h1 h2, adP_t .., by rw [show adP ad (nP S) q t q2 (1000 + 2 * (S.1 8 0).toNat) = q from adP_q ..], rfl⟩ dX8_open_26 hlk)
/-- Register.open: one payment more -/
theorem c_X8_open {l : Launch} {D : va_G} {cy : Nat → ClassId} {B0 : Nat} {ad bk : Nat → Nat} {S : ST} {I : Int → Bool} {cX qX : Int → Int64} {G : gF} (b u c v nm h : Int) (rl : Bool) (d : Int) (st : Bool) (hwf : wf S) {t : Nat} (hlr : ∀ k : Int, 0 ≤ k → k < S.1 8 0 → S.1 21 k < S.1 8 0) (h60 : S.1 8 0 < 60) (h19 : S.1 19 (S.1 8 0) = 0) (h24 : S.1 24 (S.1 8 0) = 0) (hG2 : G 50002 = none) (hG3 : G 50003 = some (t, .inr (11, [.int (iI b), .int (iI u), .int (iI c), .int (iI v), .int (iI nm), .int (iI h), .int (iI (bI rl)), .int (iI d), .int (iI (bI st))]))) (hP0 : nP S = 0 → ad 11 = D.1 21) :
    gM l yX8_open vX8_open 7 156 D cy B0 [.ref (ad 5), .ref (t)] (kW cy ad bk S (I, cX, qX) G) (fun r g_ => ∃ ad2 : Nat → Nat, (∀ i : Nat, i ≠ 11 → i ≠ 93 → i < 1000 + 2 * nP S → ad2 i = ad i) ∧ ad2 (1001 + 2 * (S.1 8 0).toNat) = t ∧ r = some (.ref (ad2 (1000 + 2 * (S.1 8 0).toNat))) ∧ g_ = kW cy ad2 bk (gCome (sCom1 S b u c v nm h rl d st) (S.1 8 0)) (I, cX, qX) (gno G 50003)) 2 139 := by
  by_cases hn0 : nP S = 0
  · exact c_X8_open_0 b u c v nm h rl d st hwf hlr h60 h19 h24 hG2 hG3 hn0 hP0
  · by_cases hnf : nP S = kcap (nP S)
    · exact c_X8_open_f b u c v nm h rl d st hwf hlr h60 h19 h24 hG2 hG3 hn0 hnf
    · exact c_X8_open_r b u c v nm h rl d st hwf hlr h60 h19 h24 hG2 hG3 hn0 hnf
