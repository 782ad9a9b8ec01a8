theorem kcap_10 {n : Nat} (h : n ≠ 0) : 10 ≤ kcap n := by
  induction n with
  | zero => exact absurd rfl h
  | succ n ih =>
    unfold kcap
    split
    · split
      · omega
      · rename_i h1 h2
        have := ih h2
        omega
    · by_cases e : n = 0
      · subst e
        rename_i h1
        exact absurd rfl h1
      · exact ih e
theorem lsE_keep {bk : Nat → Nat} {S : ST} {b o c k : Int} {v : Int64} {q q2 e : Nat} (hw : wf S) : lsE (adK bk (nE S) q q2) (sEnt S b o c v k) e = if e = nE S then some q else lsE bk S e := by
  have h31 := wf_31 hw 0
  have eE : nE (sEnt S b o c v k) = nE S + 1 := by unfold nE; rw [sEnt_31]; omega
  unfold lsE
  rw [eE]
  by_cases h : e = nE S
  · rw [if_pos h, if_pos (by omega), h, adK_e]
  · rw [if_neg h]
    by_cases h2 : e < nE S
    · rw [if_pos h2, if_pos (by omega), adK_o bk (nE S) q q2 (by omega) (by omega) (by omega)]
    · rw [if_neg h2, if_neg (by omega)]
theorem lsE_el {cy : Nat → ClassId} {ad bk : Nat → Nat} {S : ST} {X : CX} {G : gF} (hw : wf S) : ∀ (x y : Nat), lsE bk S x = some y → ∃ (k : Nat) (vs : List Value), kW cy ad bk S X G k = some (y, .inr (6, vs)) ∧ k ≠ 100000 + 8 := by
  intro x y hxy
  unfold lsE at hxy
  split at hxy
  · rename_i hx
    cases hxy
    have h := kW_at (cy := cy) (ad := ad) (bk := bk) (G := G) (kC_ent (cy := cy) (ad := ad) (bk := bk) (S := S) (X := X) (k := (x : Int)) hw (by omega) (by unfold nE at hx; omega))
    exact ⟨100000 + (2000 + x), _, h, by omega⟩
  · cases hxy
set_option maxHeartbeats 4000000 in
set_option maxRecDepth 100000 in
theorem c_X3_keep_r {l : Launch} {D : va_G} {cy : Nat → ClassId} {B0 : Nat} {ad bk : Nat → Nat} {S : ST} {I : Int → Bool} {cX qX : Int → Int64} {G : gF}  (hwf : wf S) {b o c k : Int} {v : Int64} {q : Nat} (hbb : rI b) (hoo : rI o) (hcc : rI c) (hkk : rI k) (hG : G 50001 = some (q, .inr (6, [.int (iI b), .int (iI o), .int (iI c), .long v, .int (iI k)]))) (he : S.1 31 0 < 20000) (hn0 : nE S ≠ 0) (hnf : ¬ nE S = kcap (nE S)) : gM l yX3_keep vX3_keep 7 156 D cy B0 [.ref (ad 4), .ref (q)] (kW cy ad bk S (I, cX, qX) G) (fun r g_ => r = none ∧ ∃ q2 : Nat, g_ = kW cy ad (adK bk (nE S) q q2) (sEnt S b o c v k) (I, cX, qX) (gno G 50001)) 0 0 := by
  refine g_start (cc := cX3_keep) (maxL := 2) (ret := none) (by decide) rfl (Nat.le_of_ble_eq_true rfl) ?_
  intro p_ e_ s_ m_ be_ me_ co_ ls H locs K hr hlk hnm hK hW hl
  obtain ⟨hx, hb, hml, hown, hts⟩ := id K
  have hl : lv_has ls 2 [(0, .ref (ad 4)), (1, .ref (q))] := hl
  have h31 := wf_31 hwf 0
  have hcl := kcap_le (nE S)
  have hen : nE S < 20000 := by unfold nE; omega
  have hcap := kcap_pos hn0
  refine lv_aload_n hx hb dX3_keep_0 rfl (lv_at hl 0 rfl) ?_
  refine g_get (ref := RX3) (T := TX3) (N := 1) (ci := 4) hx hb hts wsC_X3 hown hK hW (100000 + 4) (kW_at rfl) rfl 0 (by decide) (hts _ lC_X3_12) (fun x h => h) (v := .ref (ad 8)) rfl dX3_keep_1 ?_
  refine g_callV (i := 100000 + 8) (As := []) (rest := []) K (c_Jx4a65c_size_8abf5 (i := 100000 + 8) (j := 0) (n := 0) (g := fun _ => none) (kW_at rfl)) (cwV 0 hts gC_X3_18 rfl rfl rfl (by decide +kernel) ⟨Nat.le_of_ble_eq_true rfl, Nat.le_of_ble_eq_true rfl⟩) hK hW (kW_at rfl) rfl rfl hl.1 rfl (Nat.le_of_ble_eq_true rfl) dX3_keep_4 ⟨Nat.le_refl _, Nat.le_refl _⟩ (fun v_ f_ H locs hp hW => ?_)
  obtain ⟨hpv, hpe⟩ := hp
  rw [hpe] at hW
  have hpv : v_ = some (.int (iI (S.1 31 (0)))) := hpv
  subst hpv
  have w_1 := wf_31 hwf 0
  refine xi_sipush hx hb dX3_keep_7 (by decide) ?_
  refine xi_icmp_ge (tgt := 22) hx hb ⟨by omega, by omega⟩ ⟨by omega, by omega⟩ dX3_keep_10 (by decide) (fun c_2 => ?_) (fun c_2 => ?_)
  · omega
  · refine lv_aload_n hx hb dX3_keep_13 rfl (lv_at hl 0 rfl) ?_
    refine g_get (ref := RX3) (T := TX3) (N := 1) (ci := 4) hx hb hts wsC_X3 hown hK hW (100000 + 4) (kW_at rfl) rfl 0 (by decide) (hts _ lC_X3_12) (fun x h => h) (v := .ref (ad 8)) rfl dX3_keep_14 ?_
    refine lv_aload_n hx hb dX3_keep_17 rfl (lv_at hl 1 rfl) ?_
    refine g_callV (i := 100000 + 8) (As := [.ref (q)]) (rest := []) K (c_Jx4a65c_add_9ea2d_r (i := 100000 + 8) (j := 100000 + 10) (k := 50001) (kW_at rfl) (kW_at (kC_l10 hcap)) (by decide) (by omega) ⟨h31.1, by have := kcap_ge (nE S); unfold nE at *; omega⟩ (ci := 6) rfl (List.mem_of_getElem? (i := 9) rfl) (by rw [kW_G (by decide)]; exact hG) (by decide) (by decide)) (cwV 1 hts gC_X3_28 rfl rfl rfl (by decide +kernel) ⟨Nat.le_of_ble_eq_true rfl, Nat.le_of_ble_eq_true rfl⟩) hK hW (kW_at rfl) rfl rfl hl.1 rfl (Nat.le_of_ble_eq_true rfl) dX3_keep_18 ⟨Nat.le_refl _, Nat.le_refl _⟩ (fun v_ f_ H locs hp hW => ?_)
    obtain ⟨hpv, hpe⟩ := hp
    rw [hpe] at hW
    subst hpv
    have hrow : va_up (lsE bk S) (S.1 31 0).toNat (some q) = lsE (adK bk (nE S) q (bk 10)) (sEnt S b o c v k) := by funext x; rw [lsE_keep hwf]; rfl
    have hkc : kcap (nE S) = kcap (nE S + 1) := by conv => rhs; unfold kcap; rw [if_neg hnf]
    rw [hrow, hkc] at hW
    have hW := gW_keep hwf hbb hoo hcc hkk hG hW
    refine lv_pop hx hb dX3_keep_21 rfl ?_
    exact g_vret hx hb hr hW ⟨rfl, _, rfl⟩ dX3_keep_22 hlk
set_option maxHeartbeats 4000000 in
set_option maxRecDepth 100000 in
theorem c_X3_keep_f {l : Launch} {D : va_G} {cy : Nat → ClassId} {B0 : Nat} {ad bk : Nat → Nat} {S : ST} {I : Int → Bool} {cX qX : Int → Int64} {G : gF}  (hwf : wf S) {b o c k : Int} {v : Int64} {q : Nat} (hbb : rI b) (hoo : rI o) (hcc : rI c) (hkk : rI k) (hG : G 50001 = some (q, .inr (6, [.int (iI b), .int (iI o), .int (iI c), .long v, .int (iI k)]))) (he : S.1 31 0 < 20000) (hn0 : nE S ≠ 0) (hnf : nE S = kcap (nE S)) : gM l yX3_keep vX3_keep 7 156 D cy B0 [.ref (ad 4), .ref (q)] (kW cy ad bk S (I, cX, qX) G) (fun r g_ => r = none ∧ ∃ q2 : Nat, g_ = kW cy ad (adK bk (nE S) q q2) (sEnt S b o c v k) (I, cX, qX) (gno G 50001)) 1 (nE S + nE S / 2) := by
  refine g_start (cc := cX3_keep) (maxL := 2) (ret := none) (by decide) rfl (Nat.le_of_ble_eq_true rfl) ?_
  intro p_ e_ s_ m_ be_ me_ co_ ls H locs K hr hlk hnm hK hW hl
  obtain ⟨hx, hb, hml, hown, hts⟩ := id K
  have hl : lv_has ls 2 [(0, .ref (ad 4)), (1, .ref (q))] := hl
  have h31 := wf_31 hwf 0
  have hcl := kcap_le (nE S)
  have hen : nE S < 20000 := by unfold nE; omega
  have hcap := kcap_pos hn0
  have hsz : S.1 31 0 = (nE S : Int) := by unfold nE; omega
  refine lv_aload_n hx hb dX3_keep_0 rfl (lv_at hl 0 rfl) ?_
  refine g_get (ref := RX3) (T := TX3) (N := 1) (ci := 4) hx hb hts wsC_X3 hown hK hW (100000 + 4) (kW_at rfl) rfl 0 (by decide) (hts _ lC_X3_12) (fun x h => h) (v := .ref (ad 8)) rfl dX3_keep_1 ?_
  refine g_callV (i := 100000 + 8) (As := []) (rest := []) K (c_Jx4a65c_size_8abf5 (i := 100000 + 8) (j := 0) (n := 0) (g := fun _ => none) (kW_at rfl)) (cwV 0 hts gC_X3_18 rfl rfl rfl (by decide +kernel) ⟨Nat.le_of_ble_eq_true rfl, Nat.le_of_ble_eq_true rfl⟩) hK hW (kW_at rfl) rfl rfl hl.1 rfl (Nat.le_of_ble_eq_true rfl) dX3_keep_4 ⟨by dsimp only; omega, by dsimp only; omega⟩ (fun v_ f_ H locs hp hW => ?_)
  obtain ⟨hpv, hpe⟩ := hp
  rw [hpe] at hW
  have hpv : v_ = some (.int (iI (S.1 31 (0)))) := hpv
  subst hpv
  have w_1 := wf_31 hwf 0
  refine xi_sipush hx hb dX3_keep_7 (by decide) ?_
  refine xi_icmp_ge (tgt := 22) hx hb ⟨by omega, by omega⟩ ⟨by omega, by omega⟩ dX3_keep_10 (by decide) (fun c_2 => ?_) (fun c_2 => ?_)
  · omega
  · refine lv_aload_n hx hb dX3_keep_13 rfl (lv_at hl 0 rfl) ?_
    refine g_get (ref := RX3) (T := TX3) (N := 1) (ci := 4) hx hb hts wsC_X3 hown hK hW (100000 + 4) (kW_at rfl) rfl 0 (by decide) (hts _ lC_X3_12) (fun x h => h) (v := .ref (ad 8)) rfl dX3_keep_14 ?_
    refine lv_aload_n hx hb dX3_keep_17 rfl (lv_at hl 1 rfl) ?_
    refine g_callV (i := 100000 + 8) (As := [.ref (q)]) (rest := []) K (c_Jx4a65c_add_9ea2d_f (i := 100000 + 8) (j := 100000 + 10) (j2 := 100015) (n := nE S) (k := 50001) (by have h9 := kW_at (cy := cy) (ad := ad) (bk := bk) (S := S) (X := (I, cX, qX)) (G := G) (i := 8) rfl; rw [hsz] at h9; exact h9) (by have h9 := kW_at (cy := cy) (ad := ad) (bk := bk) (S := S) (X := (I, cX, qX)) (G := G) (kC_l10 hcap); rw [← hnf] at h9; exact h9) (by decide) (by have := kcap_10 hn0; omega) (by unfold nE; omega) rfl (by decide) (ci := 6) rfl (List.mem_of_getElem? (i := 9) rfl) (lsE_el hwf) (by decide) (by rw [kW_G (by decide)]; exact hG) (by decide) (by decide)) (cwV 1 hts gC_X3_28 rfl rfl rfl (by decide +kernel) ⟨Nat.le_of_ble_eq_true rfl, Nat.le_of_ble_eq_true rfl⟩) hK hW (kW_at rfl) rfl rfl hl.1 rfl (Nat.le_of_ble_eq_true rfl) dX3_keep_18 ⟨Nat.le_refl _, by dsimp only; omega⟩ (fun v_ f_ H locs hp hW => ?_)
    obtain ⟨q2, hpv, hpe⟩ := hp
    rw [hpe] at hW
    subst hpv
    have hrow : va_up (va_cpy (lsE bk S) (fun _ => none) 0 0 (nE S)) ((nE S : Int)).toNat (some q) = lsE (adK bk (nE S) q q2) (sEnt S b o c v k) := by
      funext x
      rw [lsE_keep hwf]
      show (if x = nE S then some q else va_cpy (lsE bk S) (fun _ => none) 0 0 (nE S) x) = _
      by_cases hx : x = nE S
      · rw [if_pos hx, if_pos hx]
      · rw [if_neg hx, if_neg hx]
        unfold va_cpy
        by_cases hx2 : x < nE S
        · rw [if_pos (by omega)]; congr 1; omega
        · rw [if_neg (by omega)]; unfold lsE; rw [if_neg hx2]
    have hkc : nE S + nE S / 2 = kcap (nE S + 1) := by conv => rhs; unfold kcap; rw [if_pos hnf, if_neg hn0]
    rw [hrow, hkc, ← hsz] at hW
    have hW := gW_keep hwf hbb hoo hcc hkk hG hW
    refine lv_pop hx hb dX3_keep_21 rfl ?_
    exact W.widen (by first | omega | (dsimp only; omega)) (by first | omega | (dsimp only; omega)) (g_vret hx hb hr hW ⟨rfl, _, rfl⟩ dX3_keep_22 hlk)
set_option maxHeartbeats 4000000 in
set_option maxRecDepth 100000 in
theorem c_X3_keep_0 {l : Launch} {D : va_G} {cy : Nat → ClassId} {B0 : Nat} {ad bk : Nat → Nat} {S : ST} {I : Int → Bool} {cX qX : Int → Int64} {G : gF}  (hwf : wf S) {b o c k : Int} {v : Int64} {q : Nat} (hbb : rI b) (hoo : rI o) (hcc : rI c) (hkk : rI k) (hG : G 50001 = some (q, .inr (6, [.int (iI b), .int (iI o), .int (iI c), .long v, .int (iI k)]))) (he : S.1 31 0 < 20000) (hn0 : nE S = 0) (hE0 : bk 10 = D.1 21) : gM l yX3_keep vX3_keep 7 156 D cy B0 [.ref (ad 4), .ref (q)] (kW cy ad bk S (I, cX, qX) G) (fun r g_ => r = none ∧ ∃ q2 : Nat, g_ = kW cy ad (adK bk (nE S) q q2) (sEnt S b o c v k) (I, cX, qX) (gno G 50001)) 1 10 := by
  refine g_start (cc := cX3_keep) (maxL := 2) (ret := none) (by decide) rfl (Nat.le_of_ble_eq_true rfl) ?_
  intro p_ e_ s_ m_ be_ me_ co_ ls H locs K hr hlk hnm hK hW hl
  obtain ⟨hx, hb, hml, hown, hts⟩ := id K
  have hl : lv_has ls 2 [(0, .ref (ad 4)), (1, .ref (q))] := hl
  have h31 := wf_31 hwf 0
  have hcl := kcap_le (nE S)
  have hen : nE S < 20000 := by unfold nE; omega
  have hsz : S.1 31 0 = 0 := by unfold nE at hn0; omega
  refine lv_aload_n hx hb dX3_keep_0 rfl (lv_at hl 0 rfl) ?_
  refine g_get (ref := RX3) (T := TX3) (N := 1) (ci := 4) hx hb hts wsC_X3 hown hK hW (100000 + 4) (kW_at rfl) rfl 0 (by decide) (hts _ lC_X3_12) (fun x h => h) (v := .ref (ad 8)) rfl dX3_keep_1 ?_
  refine g_callV (i := 100000 + 8) (As := []) (rest := []) K (c_Jx4a65c_size_8abf5 (i := 100000 + 8) (j := 0) (n := 0) (g := fun _ => none) (kW_at rfl)) (cwV 0 hts gC_X3_18 rfl rfl rfl (by decide +kernel) ⟨Nat.le_of_ble_eq_true rfl, Nat.le_of_ble_eq_true rfl⟩) hK hW (kW_at rfl) rfl rfl hl.1 rfl (Nat.le_of_ble_eq_true rfl) dX3_keep_4 ⟨by dsimp only; omega, by dsimp only; omega⟩ (fun v_ f_ H locs hp hW => ?_)
  obtain ⟨hpv, hpe⟩ := hp
  rw [hpe] at hW
  have hpv : v_ = some (.int (iI (S.1 31 (0)))) := hpv
  subst hpv
  have w_1 := wf_31 hwf 0
  refine xi_sipush hx hb dX3_keep_7 (by decide) ?_
  refine xi_icmp_ge (tgt := 22) hx hb ⟨by omega, by omega⟩ ⟨by omega, by omega⟩ dX3_keep_10 (by decide) (fun c_2 => ?_) (fun c_2 => ?_)
  · omega
  · refine lv_aload_n hx hb dX3_keep_13 rfl (lv_at hl 0 rfl) ?_
    refine g_get (ref := RX3) (T := TX3) (N := 1) (ci := 4) hx hb hts wsC_X3 hown hK hW (100000 + 4) (kW_at rfl) rfl 0 (by decide) (hts _ lC_X3_12) (fun x h => h) (v := .ref (ad 8)) rfl dX3_keep_14 ?_
    refine lv_aload_n hx hb dX3_keep_17 rfl (lv_at hl 1 rfl) ?_
    refine g_callV (i := 100000 + 8) (As := [.ref (q)]) (rest := []) K (c_Jx4a65c_add_9ea2d_0 (i := 100000 + 8) (j := 100000 + 10) (k := 50001) (by have h9 := kW_at (cy := cy) (ad := ad) (bk := bk) (S := S) (X := (I, cX, qX)) (G := G) (i := 8) rfl; rw [hE0, hsz] at h9; exact h9) (by decide) (ci := 6) rfl (List.mem_of_getElem? (i := 9) rfl) (by rw [kW_G (by decide)]; exact hG) (by decide) (by decide)) (cwV 1 hts gC_X3_28 rfl rfl rfl (by decide +kernel) ⟨Nat.le_of_ble_eq_true rfl, Nat.le_of_ble_eq_true rfl⟩) hK hW (kW_at rfl) rfl rfl hl.1 rfl (Nat.le_of_ble_eq_true rfl) dX3_keep_18 ⟨Nat.le_refl _, by dsimp only; omega⟩ (fun v_ f_ H locs hp hW => ?_)
    obtain ⟨q2, hpv, hpe⟩ := hp
    rw [hpe] at hW
    subst hpv
    have hrow : va_up (fun _ => none) (0 : Int).toNat (some q) = lsE (adK bk (nE S) q q2) (sEnt S b o c v k) := by
      funext x
      rw [lsE_keep hwf, hn0]
      show (if x = 0 then some q else none) = _
      by_cases hx : x = 0
      · rw [if_pos hx, if_pos hx]
      · rw [if_neg hx, if_neg hx]; unfold lsE; rw [if_neg (by omega)]
    have hkc : 10 = kcap (nE S + 1) := by rw [hn0]; rfl
    rw [hrow] at hW
    have hW := gW_keep hwf hbb hoo hcc hkk hG (by rw [hsz, ← hkc]; exact hW)
    refine lv_pop hx hb dX3_keep_21 rfl ?_
    exact W.widen (by first | omega | (dsimp only; omega)) (by first | omega | (dsimp only; omega)) (g_vret hx hb hr hW ⟨rfl, _, rfl⟩ dX3_keep_22 hlk)
