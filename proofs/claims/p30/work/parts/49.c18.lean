theorem kW_gG {cy : Nat → ClassId} {ad bk : Nat → Nat} {S : ST} {X : CX} {G : gF} {i q : Nat} {e : va_E} (h : i < 100000) : gup (kW cy ad bk S X G) i q e = kW cy ad bk S X (gup G i q e) := by
  funext j
  by_cases hj : j = i
  · subst hj
    rw [gup_s, kW_G h, gup_s]
  · rw [gup_n _ _ _ hj]
    unfold kW
    by_cases h2 : 100000 ≤ j
    · rw [if_pos h2, if_pos h2]
    · rw [if_neg h2, if_neg h2, gup_n _ _ _ hj]
theorem gno_g {G : gF} {i q : Nat} {e : va_E} (h : G i = none) : gno (gup G i q e) i = G := by
  funext j
  unfold gno
  by_cases hj : j = i
  · rw [if_pos hj, hj, h]
  · rw [if_neg hj, gup_n _ _ _ hj]
theorem sub_neg64 (a b : Int64) : a + -b = a - b := (Int64.sub_eq_add_neg a b).symm
theorem sEnt_pL {S : ST} {b o c k y : Int} {v w : Int64} : sEnt (pL S 1 y w) b o c v k = pL (sEnt S b o c v k) 1 y w := by
  have h1 : (sEnt (pL S 1 y w) b o c v k).1 = (pL (sEnt S b o c v k) 1 y w).1 := rfl
  refine Prod.ext h1 ?_
  funext f j
  by_cases h : f = 1
  · subst h
    rw [sEnt_2 _ b o c v k (show (1 : Nat) ≠ 32 by decide), pL_fn, pL_fn, sEnt_2 S b o c v k (show (1 : Nat) ≠ 32 by decide)]
  · rw [pL_f _ _ _ h]
    by_cases h2 : f = 32
    · subst h2
      rw [sEnt_32, sEnt_32, pL_f S _ _ (show (32 : Nat) ≠ 1 by decide)]
      rfl
    · rw [sEnt_2 _ b o c v k h2, sEnt_2 _ b o c v k h2, pL_f S _ _ h]
theorem sBook_A {S : ST} {b o c k : Int} {v : Int64} (hb : b = -1) : sEnt (pL S 1 (3 * o + c) (S.2 1 (3 * o + c) + v)) b o c v k = sBook S b o c v k := by
  rw [sEnt_pL]
  unfold sBook sMore
  rw [sLess_t hb, sEnt_2 S b o c v k (show (1 : Nat) ≠ 32 by decide)]
theorem sBook_B {S : ST} {b o c k : Int} {v : Int64} (hb : ¬ b = -1) : sEnt (pL (pL S 1 (3 * b + c) (S.2 1 (3 * b + c) + -v)) 1 (3 * o + c) ((pL S 1 (3 * b + c) (S.2 1 (3 * b + c) + -v)).2 1 (3 * o + c) + v)) b o c v k = sBook S b o c v k := by
  have e : sLess (sEnt S b o c v k) b c v = pL (sEnt S b o c v k) 1 (3 * b + c) (S.2 1 (3 * b + c) + -v) := by
    unfold sLess
    rw [if_neg hb, sEnt_2 S b o c v k (show (1 : Nat) ≠ 32 by decide), sub_neg64]
    rfl
  rw [sEnt_pL, sEnt_pL]
  unfold sBook sMore
  rw [e, pL_fn, pL_fn, sEnt_2 S b o c v k (show (1 : Nat) ≠ 32 by decide)]
set_option maxHeartbeats 4000000 in
set_option maxRecDepth 100000 in
theorem c_X0_move {l : Launch} {D : va_G} {cy : Nat → ClassId} {B0 : Nat} {ad bk : Nat → Nat} {S : ST} {I : Int → Bool} {cX qX : Int → Int64} {G : gF} (b : Int) (u : Int) (c : Int) (v : Int64) (k : Int) (hwf : wf S) (hb0 : -1 ≤ b ∧ b ≤ 5) (hu : 0 ≤ u ∧ u ≤ 6) (hcc : 0 ≤ c ∧ c ≤ 2) (hkk : -1 ≤ k ∧ k ≤ 59) (hG0 : G 50001 = none) (he : S.1 31 0 < 20000) (hE0 : nE S = 0 → bk 10 = D.1 21) : gM l yX0_move vX0_move 8 177 D cy B0 [.ref (ad 3), .int (iI (b)), .int (iI (u)), .int (iI (c)), .long (v), .int (iI (k))] (kW cy ad bk S (I, cX, qX) G) (fun r g_ => r = none ∧ ∃ q q2 : Nat, g_ = kW cy ad (adK bk (nE S) q q2) (sBook S b u c v k) (I, cX, qX) G) (1 + kmc (nE S)) (5 + kms (nE S)) := by
  refine g_start (cc := cX0_move) (maxL := 7) (ret := none) (by decide) rfl (Nat.le_of_ble_eq_true rfl) ?_
  intro p_ e_ s_ m_ be_ me_ co_ ls H locs K hr hlk hnm hK hW hl
  obtain ⟨hx, hb, hml, hown, hts⟩ := id K
  have hl : lv_has ls 7 [(0, .ref (ad 3)), (1, .int (iI (b))), (2, .int (iI (u))), (3, .int (iI (c))), (4, .long (v)), (6, .int (iI (k)))] := hl
  refine lv_iload_n hx hb dX0_move_0 rfl (lv_at hl 1 rfl) ?_
  refine xi_iconst hx hb dX0_move_1 ?_
  refine xi_icmp_eq (tgt := 20) hx hb ⟨by omega, by omega⟩ ⟨by omega, by omega⟩ dX0_move_2 (by decide) (fun c_1 => ?_) (fun c_1 => ?_)
  · refine lv_aload_n hx hb dX0_move_20 rfl (lv_at hl 0 rfl) ?_
    refine g_get (ref := RX0) (T := TX0) (N := 5) (ci := 1) hx hb hts wsC_X0 hown hK hW (100000 + 3) (kW_at rfl) rfl 1 (by decide) (hts _ lC_X0_23) (fun x h => h) (v := .ref (ad 21)) rfl dX0_move_21 ?_
    refine lv_iload_n hx hb dX0_move_24 rfl (lv_at hl 2 rfl) ?_
    refine lv_iload_n hx hb dX0_move_25 rfl (lv_at hl 3 rfl) ?_
    refine g_callSN (As := [.int (iI (u)), .int (iI (c))]) (rest := [.ref (ad 21)]) K (c_X11_accountSlot (u) (c)) ⟨va_cnB 2 hts gC_X11_accountSlot rfl rfl rfl (hK.2.1 _ (List.mem_of_getElem? (i := 2) rfl)) (hts _ iC_X11) (by decide +kernel) ⟨Nat.le_of_ble_eq_true rfl, Nat.le_of_ble_eq_true rfl⟩, hts _ sC_X11_accountSlot, trivial⟩ hK hW rfl hl.1 rfl (Nat.le_of_ble_eq_true rfl) dX0_move_26 ⟨by dsimp only; omega, by dsimp only; omega⟩ (fun v_ f_ H locs hp hW => ?_)
    obtain ⟨hpv, hpe⟩ := hp
    rw [hpe] at hW
    subst hpv
    refine lv_lload hx hb dX0_move_29 (lv_at hl 4 rfl) ?_
    refine g_callV (i := 100000 + 21) (As := [.int (iI (3 * u + c)), .long (v)]) (rest := []) K (c_X9_add (i := 100000 + 21) (j := 100000 + (40 + 1)) (3 * u + c) (v) (kW_at rfl) (kW_at (kC_row (r := 1) (by decide))) (by decide) (by decide) (show 0 ≤ (3 * u + c) ∧ (3 * u + c) < ((21 : Nat) : Int) from ⟨by omega, by omega⟩)) (cwV 2 hts gC_X0_54 rfl rfl rfl (by decide +kernel) ⟨Nat.le_of_ble_eq_true rfl, Nat.le_of_ble_eq_true rfl⟩) hK hW (kW_at rfl) rfl rfl hl.1 rfl (Nat.le_of_ble_eq_true rfl) dX0_move_31 ⟨by dsimp only; omega, by dsimp only; omega⟩ (fun v_ f_ H locs hp hW => ?_)
    obtain ⟨hpv, hpe⟩ := hp
    rw [hpe.trans (kW_r1 (cy := cy) (ad := ad) (bk := bk) (S := S) (X := (I, cX, qX)) (G := G) (z := 3 * u + c) (v := S.2 1 (3 * u + c) + v))] at hW
    subst hpv
    refine lv_aload_n hx hb dX0_move_34 rfl (lv_at hl 0 rfl) ?_
    refine g_get (ref := RX0) (T := TX0) (N := 5) (ci := 1) hx hb hts wsC_X0 hown hK hW (100000 + 3) (kW_at rfl) rfl 0 (by decide) (hts _ lC_X0_12) (fun x h => h) (v := .ref (ad 4)) rfl dX0_move_35 ?_
    refine g_new hx hb hts wsC_X5 tyX5 tyX5_ok hown (hts _ hC_X0_57) (hts _ nC_X5) (hts _ iC_X5) hK hW 50001 (ci := 6) rfl (fs := [.int (iI 0), .int (iI 0), .int (iI 0), .long 0, .int (iI 0)]) (fun j hj => by rcases (show j = 0 ∨ j = 1 ∨ j = 2 ∨ j = 3 ∨ j = 4 by omega) with rfl | rfl | rfl | rfl | rfl <;> rfl) (by first | omega | (dsimp only; omega)) (by first | omega | (dsimp only; omega)) dX0_move_38 (fun q H hW hne => ?_)
    rw [kW_gG (by decide)] at hW
    refine lv_dup hx hb dX0_move_41 rfl ?_
    refine lv_iload_n hx hb dX0_move_42 rfl (lv_at hl 1 rfl) ?_
    refine lv_iload_n hx hb dX0_move_43 rfl (lv_at hl 2 rfl) ?_
    refine lv_iload_n hx hb dX0_move_44 rfl (lv_at hl 3 rfl) ?_
    refine lv_lload hx hb dX0_move_45 (lv_at hl 4 rfl) ?_
    refine lv_iload hx hb dX0_move_47 (lv_at hl 5 rfl) ?_
    refine g_callI (As := [.int (iI (b)), .int (iI (u)), .int (iI (c)), .long (v), .int (iI (k))]) (rest := [.ref (q), .ref (ad 4)]) K (c_X5_init (i := 50001) (b) (u) (c) (v) (k) (by rw [kW_G (by decide)]; exact gup_s _ _ _ _)) (cwI 5 hts gC_X5_init rfl rfl rfl (hts _ iC_X5) (hts _ gC_X0_59) (hts _ sC_X5_init) rfl (by decide +kernel) ⟨Nat.le_of_ble_eq_true rfl, Nat.le_of_ble_eq_true rfl⟩) hK hW rfl hl.1 rfl (Nat.le_of_ble_eq_true rfl) dX0_move_49 ⟨by show 0 + 1 + 0 ≤ 1 + kmc (nE S); omega, by show 0 + 5 + 0 ≤ 5 + kms (nE S); omega⟩ (fun v_ f_ H locs hp hW => ?_)
    obtain ⟨hpv, hpe⟩ := hp
    rw [kW_gG (by decide), gup_gup] at hpe
    rw [hpe] at hW
    subst hpv
    refine g_callV (i := 100000 + 4) (As := [.ref (q)]) (rest := []) K (c_X3_keep (S := (pL S 1 (3 * u + c) (S.2 1 (3 * u + c) + v))) (b := b) (o := u) (c := c) (k := k) (v := v) (q := q) (show wf (pL S 1 (3 * u + c) (S.2 1 (3 * u + c) + v)) from hwf) ⟨by omega, by omega⟩ ⟨by omega, by omega⟩ ⟨by omega, by omega⟩ ⟨by omega, by omega⟩ (gup_s _ _ _ _) (show S.1 31 0 < 20000 from he) hE0) (cwV 1 hts gC_X0_62 rfl rfl rfl (by decide +kernel) ⟨Nat.le_of_ble_eq_true rfl, Nat.le_of_ble_eq_true rfl⟩) hK hW (kW_at rfl) rfl rfl hl.1 rfl (Nat.le_of_ble_eq_true rfl) dX0_move_52 ⟨by show 0 + 1 + kmc (nE S) ≤ 1 + kmc (nE S); omega, by show 0 + 5 + kms (nE S) ≤ 5 + kms (nE S); omega⟩ (fun v_ f_ H locs hp hW => ?_)
    obtain ⟨hpv, q2, hpe⟩ := hp
    rw [gno_g hG0, sBook_A c_1] at hpe
    rw [hpe] at hW
    subst hpv
    exact W.widen (by show 0 + 1 + 0 + kmc (nE S) ≤ 1 + kmc (nE S); omega) (by show 0 + 5 + 0 + kms (nE S) ≤ 5 + kms (nE S); omega) (g_vret hx hb hr hW ⟨rfl, q, q2, rfl⟩ dX0_move_55 hlk)
  · refine lv_aload_n hx hb dX0_move_5 rfl (lv_at hl 0 rfl) ?_
    refine g_get (ref := RX0) (T := TX0) (N := 5) (ci := 1) hx hb hts wsC_X0 hown hK hW (100000 + 3) (kW_at rfl) rfl 1 (by decide) (hts _ lC_X0_23) (fun x h => h) (v := .ref (ad 21)) rfl dX0_move_6 ?_
    refine lv_iload_n hx hb dX0_move_9 rfl (lv_at hl 1 rfl) ?_
    refine lv_iload_n hx hb dX0_move_10 rfl (lv_at hl 3 rfl) ?_
    refine g_callSN (As := [.int (iI (b)), .int (iI (c))]) (rest := [.ref (ad 21)]) K (c_X11_accountSlot (b) (c)) ⟨va_cnB 2 hts gC_X11_accountSlot rfl rfl rfl (hK.2.1 _ (List.mem_of_getElem? (i := 2) rfl)) (hts _ iC_X11) (by decide +kernel) ⟨Nat.le_of_ble_eq_true rfl, Nat.le_of_ble_eq_true rfl⟩, hts _ sC_X11_accountSlot, trivial⟩ hK hW rfl hl.1 rfl (Nat.le_of_ble_eq_true rfl) dX0_move_11 ⟨by dsimp only; omega, by dsimp only; omega⟩ (fun v_ f_ H locs hp hW => ?_)
    obtain ⟨hpv, hpe⟩ := hp
    rw [hpe] at hW
    subst hpv
    refine lv_lload hx hb dX0_move_14 (lv_at hl 4 rfl) ?_
    refine lv_lneg hx hb dX0_move_16 ?_
    refine g_callV (i := 100000 + 21) (As := [.int (iI (3 * b + c)), .long (-v)]) (rest := []) K (c_X9_add (i := 100000 + 21) (j := 100000 + (40 + 1)) (3 * b + c) (-v) (kW_at rfl) (kW_at (kC_row (r := 1) (by decide))) (by decide) (by decide) (show 0 ≤ (3 * b + c) ∧ (3 * b + c) < ((21 : Nat) : Int) from ⟨by omega, by omega⟩)) (cwV 2 hts gC_X0_54 rfl rfl rfl (by decide +kernel) ⟨Nat.le_of_ble_eq_true rfl, Nat.le_of_ble_eq_true rfl⟩) hK hW (kW_at rfl) rfl rfl hl.1 rfl (Nat.le_of_ble_eq_true rfl) dX0_move_17 ⟨by dsimp only; omega, by dsimp only; omega⟩ (fun v_ f_ H locs hp hW => ?_)
    obtain ⟨hpv, hpe⟩ := hp
    rw [hpe.trans (kW_r1 (cy := cy) (ad := ad) (bk := bk) (S := S) (X := (I, cX, qX)) (G := G) (z := 3 * b + c) (v := S.2 1 (3 * b + c) + (-v)))] at hW
    subst hpv
    refine lv_aload_n hx hb dX0_move_20 rfl (lv_at hl 0 rfl) ?_
    refine g_get (ref := RX0) (T := TX0) (N := 5) (ci := 1) hx hb hts wsC_X0 hown hK hW (100000 + 3) (kW_at rfl) rfl 1 (by decide) (hts _ lC_X0_23) (fun x h => h) (v := .ref (ad 21)) rfl dX0_move_21 ?_
    refine lv_iload_n hx hb dX0_move_24 rfl (lv_at hl 2 rfl) ?_
    refine lv_iload_n hx hb dX0_move_25 rfl (lv_at hl 3 rfl) ?_
    refine g_callSN (As := [.int (iI (u)), .int (iI (c))]) (rest := [.ref (ad 21)]) K (c_X11_accountSlot (u) (c)) ⟨va_cnB 2 hts gC_X11_accountSlot rfl rfl rfl (hK.2.1 _ (List.mem_of_getElem? (i := 2) rfl)) (hts _ iC_X11) (by decide +kernel) ⟨Nat.le_of_ble_eq_true rfl, Nat.le_of_ble_eq_true rfl⟩, hts _ sC_X11_accountSlot, trivial⟩ hK hW rfl hl.1 rfl (Nat.le_of_ble_eq_true rfl) dX0_move_26 ⟨by dsimp only; omega, by dsimp only; omega⟩ (fun v_ f_ H locs hp hW => ?_)
    obtain ⟨hpv, hpe⟩ := hp
    rw [hpe] at hW
    subst hpv
    refine lv_lload hx hb dX0_move_29 (lv_at hl 4 rfl) ?_
    refine g_callV (i := 100000 + 21) (As := [.int (iI (3 * u + c)), .long (v)]) (rest := []) K (c_X9_add (i := 100000 + 21) (j := 100000 + (40 + 1)) (3 * u + c) (v) (kW_at rfl) (kW_at (kC_row (r := 1) (by decide))) (by decide) (by decide) (show 0 ≤ (3 * u + c) ∧ (3 * u + c) < ((21 : Nat) : Int) from ⟨by omega, by omega⟩)) (cwV 2 hts gC_X0_54 rfl rfl rfl (by decide +kernel) ⟨Nat.le_of_ble_eq_true rfl, Nat.le_of_ble_eq_true rfl⟩) hK hW (kW_at rfl) rfl rfl hl.1 rfl (Nat.le_of_ble_eq_true rfl) dX0_move_31 ⟨by dsimp only; omega, by dsimp only; omega⟩ (fun v_ f_ H locs hp hW => ?_)
    obtain ⟨hpv, hpe⟩ := hp
    rw [hpe.trans (kW_r1 (cy := cy) (ad := ad) (bk := bk) (S := (pL S 1 (3 * b + c) (S.2 1 (3 * b + c) + (-v)))) (X := (I, cX, qX)) (G := G) (z := 3 * u + c) (v := (pL S 1 (3 * b + c) (S.2 1 (3 * b + c) + (-v))).2 1 (3 * u + c) + v))] at hW
    subst hpv
    refine lv_aload_n hx hb dX0_move_34 rfl (lv_at hl 0 rfl) ?_
    refine g_get (ref := RX0) (T := TX0) (N := 5) (ci := 1) hx hb hts wsC_X0 hown hK hW (100000 + 3) (kW_at rfl) rfl 0 (by decide) (hts _ lC_X0_12) (fun x h => h) (v := .ref (ad 4)) rfl dX0_move_35 ?_
    refine g_new hx hb hts wsC_X5 tyX5 tyX5_ok hown (hts _ hC_X0_57) (hts _ nC_X5) (hts _ iC_X5) hK hW 50001 (ci := 6) rfl (fs := [.int (iI 0), .int (iI 0), .int (iI 0), .long 0, .int (iI 0)]) (fun j hj => by rcases (show j = 0 ∨ j = 1 ∨ j = 2 ∨ j = 3 ∨ j = 4 by omega) with rfl | rfl | rfl | rfl | rfl <;> rfl) (by first | omega | (dsimp only; omega)) (by first | omega | (dsimp only; omega)) dX0_move_38 (fun q H hW hne => ?_)
    rw [kW_gG (by decide)] at hW
    refine lv_dup hx hb dX0_move_41 rfl ?_
    refine lv_iload_n hx hb dX0_move_42 rfl (lv_at hl 1 rfl) ?_
    refine lv_iload_n hx hb dX0_move_43 rfl (lv_at hl 2 rfl) ?_
    refine lv_iload_n hx hb dX0_move_44 rfl (lv_at hl 3 rfl) ?_
    refine lv_lload hx hb dX0_move_45 (lv_at hl 4 rfl) ?_
    refine lv_iload hx hb dX0_move_47 (lv_at hl 5 rfl) ?_
    refine g_callI (As := [.int (iI (b)), .int (iI (u)), .int (iI (c)), .long (v), .int (iI (k))]) (rest := [.ref (q), .ref (ad 4)]) K (c_X5_init (i := 50001) (b) (u) (c) (v) (k) (by rw [kW_G (by decide)]; exact gup_s _ _ _ _)) (cwI 5 hts gC_X5_init rfl rfl rfl (hts _ iC_X5) (hts _ gC_X0_59) (hts _ sC_X5_init) rfl (by decide +kernel) ⟨Nat.le_of_ble_eq_true rfl, Nat.le_of_ble_eq_true rfl⟩) hK hW rfl hl.1 rfl (Nat.le_of_ble_eq_true rfl) dX0_move_49 ⟨by show 0 + 1 + 0 ≤ 1 + kmc (nE S); omega, by show 0 + 5 + 0 ≤ 5 + kms (nE S); omega⟩ (fun v_ f_ H locs hp hW => ?_)
    obtain ⟨hpv, hpe⟩ := hp
    rw [kW_gG (by decide), gup_gup] at hpe
    rw [hpe] at hW
    subst hpv
    refine g_callV (i := 100000 + 4) (As := [.ref (q)]) (rest := []) K (c_X3_keep (S := (pL (pL S 1 (3 * b + c) (S.2 1 (3 * b + c) + (-v))) 1 (3 * u + c) ((pL S 1 (3 * b + c) (S.2 1 (3 * b + c) + (-v))).2 1 (3 * u + c) + v))) (b := b) (o := u) (c := c) (k := k) (v := v) (q := q) (show wf (pL (pL S 1 (3 * b + c) (S.2 1 (3 * b + c) + (-v))) 1 (3 * u + c) ((pL S 1 (3 * b + c) (S.2 1 (3 * b + c) + (-v))).2 1 (3 * u + c) + v)) from hwf) ⟨by omega, by omega⟩ ⟨by omega, by omega⟩ ⟨by omega, by omega⟩ ⟨by omega, by omega⟩ (gup_s _ _ _ _) (show S.1 31 0 < 20000 from he) hE0) (cwV 1 hts gC_X0_62 rfl rfl rfl (by decide +kernel) ⟨Nat.le_of_ble_eq_true rfl, Nat.le_of_ble_eq_true rfl⟩) hK hW (kW_at rfl) rfl rfl hl.1 rfl (Nat.le_of_ble_eq_true rfl) dX0_move_52 ⟨by show 0 + 1 + kmc (nE S) ≤ 1 + kmc (nE S); omega, by show 0 + 5 + kms (nE S) ≤ 5 + kms (nE S); omega⟩ (fun v_ f_ H locs hp hW => ?_)
    obtain ⟨hpv, q2, hpe⟩ := hp
    rw [gno_g hG0, sBook_B c_1] at hpe
    rw [hpe] at hW
    subst hpv
    exact W.widen (by show 0 + 1 + 0 + kmc (nE S) ≤ 1 + kmc (nE S); omega) (by show 0 + 5 + 0 + kms (nE S) ≤ 5 + kms (nE S); omega) (g_vret hx hb hr hW ⟨rfl, q, q2, rfl⟩ dX0_move_55 hlk)
