/-! the reference's constructor -/
def nx (ix : Nat → Nat) (a q : Nat) : Nat → Nat := fun i => if i = a then q else ix i
theorem nx_s (ix : Nat → Nat) (a q : Nat) : nx ix a q a = q := by simp [nx]
theorem nx_n (ix : Nat → Nat) {a i : Nat} (q : Nat) (h : i ≠ a) : nx ix a q i = ix i := by simp [nx, h]
def Zs : ST := (fun _ _ => 0, fun _ _ => 0)
def Zx : ST := mX (fun _ => false) (fun _ => 0) (fun _ => 0) 0
/-- a reference in the making: the rows of the fields below n are there -/
def cV (ix : Nat → Nat) (n : Nat) : List Value := (List.range 37).map (fun f => if mkind f = 0 then Value.int (iI 0) else if f < n then Value.ref (ix (f + 100)) else Value.null)
def cW (cy : Nat → ClassId) (a : Nat) (ix : Nat → Nat) (n : Nat) (G : gF) : gF := fun i => if i < 100000 then (if i = 0 then some (a, .inr (13, cV ix n)) else if i < n then (mC cy ix Zs Zx i).map (fun e => (ix (i + 100), e)) else none) else G i
theorem cV_set {ix : Nat → Nat} {n f : Nat} (hn : ∀ i, n ≤ i → i < f → mkind i = 0) (hnf : n ≤ f) (hk : mkind f ≠ 0) (q : Nat) : (cV ix n).set f (.ref q) = cV (nx ix (f + 100) q) (f + 1) := by
  apply List.ext_getElem
  · simp [cV]
  · intro i h1 h2
    simp only [cV, List.getElem_set, List.getElem_map, List.getElem_range]
    by_cases e : f = i
    · subst e
      rw [if_pos rfl, if_neg hk, if_pos (by omega), nx_s]
    · rw [if_neg e]
      by_cases hz : mkind i = 0
      · rw [if_pos hz, if_pos hz]
      · rw [if_neg hz, if_neg hz]
        by_cases hi : i < n
        · rw [if_pos hi, if_pos (by omega), nx_n _ _ (by omega)]
        · rw [if_neg hi, if_neg (by
            intro h
            exact hz (hn i (by omega) (by omega)))]
theorem mC_nx (cy : Nat → ClassId) (ix ix' : Nat → Nat) (S X : ST) {i : Nat} (h : i ≠ 0) : mC cy ix S X i = mC cy ix' S X i := by
  unfold mC
  rw [if_neg h, if_neg h]
theorem cW_0 (cy : Nat → ClassId) (a : Nat) (ix : Nat → Nat) (n : Nat) (G : gF) : cW cy a ix n G 0 = some (a, .inr (13, cV ix n)) := rfl
theorem cW_step {cy : Nat → ClassId} {a : Nat} {ix : Nat → Nat} {n f : Nat} {G : gF} (hn : ∀ i, n ≤ i → i < f → mkind i = 0) (hnf : n ≤ f) (hf : f < 37) (hk : mkind f ≠ 0) (h0 : f ≠ 0) {e : va_E} (he : mC cy ix Zs Zx f = some e) (q : Nat) : gup (gup (cW cy a ix n G) f q e) 0 a (.inr (13, (cV ix n).set f (.ref q))) = cW cy a (nx ix (f + 100) q) (f + 1) G := by
  funext i
  by_cases e0 : i = 0
  · subst e0
    rw [gup_s, cW_0, cV_set hn hnf hk]
  · rw [gup_n _ _ _ e0]
    by_cases ef : i = f
    · subst ef
      rw [gup_s]
      unfold cW
      rw [if_pos (by omega), if_neg e0, if_pos (by omega), mC_nx cy _ ix Zs Zx e0, he]
      simp [nx]
    · rw [gup_n _ _ _ ef]
      unfold cW
      by_cases hi : i < 100000
      · rw [if_pos hi, if_pos hi, if_neg e0, if_neg e0]
        by_cases hz : i < n
        · rw [if_pos hz, if_pos (by omega), mC_nx cy (nx ix (f + 100) q) ix Zs Zx e0, nx_n _ _ (by omega)]
        · rw [if_neg hz]
          by_cases h2 : i < f + 1
          · rw [if_pos h2]
            have hm : mkind i = 0 := hn i (by omega) (by omega)
            unfold mC
            rw [if_neg e0, if_neg (by omega), if_neg (by omega), if_neg (by omega)]
            rfl
          · rw [if_neg h2]
      · rw [if_neg hi, if_neg hi]
theorem mkind_hi {i : Nat} (h : 36 ≤ i) : mkind i = 0 := by
  unfold mkind
  split <;> first | rfl | omega
theorem cW_all (cy : Nat → ClassId) (a : Nat) (ix : Nat → Nat) (G : gF) : cW cy a ix 36 G = mW cy (nx ix 100 a) Zs Zx G := by
  funext i
  unfold cW mW
  by_cases hi : i < 100000
  · rw [if_pos hi, if_pos hi]
    by_cases e0 : i = 0
    · subst e0
      rfl
    · rw [if_neg e0]
      by_cases h2 : i < 36
      · rw [if_pos h2, mC_nx cy (nx ix 100 a) ix Zs Zx e0, nx_n _ _ (by omega)]
      · rw [if_neg h2]
        have hm := mkind_hi (show 36 ≤ i by omega)
        unfold mC
        rw [if_neg e0, if_neg (by omega), if_neg (by omega), if_neg (by omega)]
        rfl
  · rw [if_neg hi, if_neg hi]
def sIni1 (n : Nat) : ST := foS (fun k S => pI S 3 k (-1)) Zs n
def sIni2 (n : Nat) : ST := foS (fun k S => pI S 25 k (-1)) (sIni1 108) n
/-- the state at the start -/
def sIni : ST := sIni2 600
theorem Zs_wf : wf Zs := fun f j => by
  show rLo f ≤ 0 ∧ 0 ≤ rHi f
  constructor
  · unfold rLo; split <;> omega
  · unfold rHi; split <;> omega
theorem sIni1_wf : ∀ n : Nat, wf (sIni1 n)
  | 0 => Zs_wf
  | n + 1 => wf_pI (sIni1_wf n) _ _ (by simp only [rLo, rHi]; omega)
theorem sIni2_wf : ∀ n : Nat, wf (sIni2 n)
  | 0 => sIni1_wf 108
  | n + 1 => wf_pI (sIni2_wf n) _ _ (by simp only [rLo, rHi]; omega)
theorem sIni1_f {f : Nat} (h : f ≠ 3) : ∀ n : Nat, (sIni1 n).1 f = Zs.1 f
  | 0 => rfl
  | n + 1 => (pI_f (sIni1 n) _ _ h).trans (sIni1_f h n)
theorem sIni2_f {f : Nat} (h : f ≠ 3) (h2 : f ≠ 25) : ∀ n : Nat, (sIni2 n).1 f = Zs.1 f
  | 0 => sIni1_f h 108
  | n + 1 => (pI_f (sIni2 n) _ _ h2).trans (sIni2_f h h2 n)
theorem sIni1_3 : ∀ (n : Nat) (j : Int), (sIni1 n).1 3 j = if 0 ≤ j ∧ j < n then -1 else 0
  | 0, j => by rw [if_neg (by omega)]; rfl
  | n + 1, j => by
    show (pI (sIni1 n) 3 n (-1)).1 3 j = _
    by_cases e : j = n
    · rw [e, pI_s, if_pos (by omega)]
    · rw [pI_n _ _ _ _ (Or.inr e), sIni1_3 n j]
      by_cases h : 0 ≤ j ∧ j < n
      · rw [if_pos h, if_pos (by omega)]
      · rw [if_neg h, if_neg (by omega)]
theorem sIni2_25 : ∀ (n : Nat) (j : Int), (sIni2 n).1 25 j = if 0 ≤ j ∧ j < n then -1 else 0
  | 0, j => by rw [if_neg (by omega)]; show (sIni1 108).1 25 j = 0; rw [sIni1_f (by decide)]; rfl
  | n + 1, j => by
    show (pI (sIni2 n) 25 n (-1)).1 25 j = _
    by_cases e : j = n
    · rw [e, pI_s, if_pos (by omega)]
    · rw [pI_n _ _ _ _ (Or.inr e), sIni2_25 n j]
      by_cases h : 0 ≤ j ∧ j < n
      · rw [if_pos h, if_pos (by omega)]
      · rw [if_neg h, if_neg (by omega)]
theorem sIni_ok : okS sIni := by
  have h18 : sIni.1 18 = Zs.1 18 := sIni2_f (by decide) (by decide) 600
  have hc : cNF sIni = 60 := by unfold cNF; rw [h18]; decide
  refine ⟨sIni2_wf 600, ?_, ?_, fun b _ _ => ?_⟩
  · rw [hc, show sIni.1 27 0 = 0 from congrFun (sIni2_f (by decide) (by decide) 600) 0]; rfl
  · rw [hc, show sIni.1 31 0 = 0 from congrFun (sIni2_f (by decide) (by decide) 600) 0]; decide
  · rw [hc, show sIni.1 44 b = 0 from congrFun (sIni2_f (by decide) (by decide) 600) b]; decide
set_option maxHeartbeats 4000000 in
set_option maxRecDepth 100000 in
theorem c_M_init {l : Launch} {D : va_G} {cy : Nat → ClassId} {B0 : Nat} {G : gF} (a : Nat) (ix0 : Nat → Nat) : gM l yX12_init vX12_init 1 12 D cy B0 [.ref a] (cW cy a ix0 1 G) (fun r g => r = none ∧ ∃ ix : Nat → Nat, ix 100 = a ∧ g = mW cy ix sIni Zx G) 31 155102 := by
  refine g_start (cc := cX12_init) (maxL := 2) (ret := none) (by decide) rfl (Nat.le_of_ble_eq_true rfl) ?_
  intro p_ e_ s_ m_ be_ me_ co_ ls H locs K hr hlk hnm hK hW hl
  have hin : ∀ w ∈ wsX120, w ∈ vX12_init := wsM_cls
  obtain ⟨hx, hb, hml, hown, hts⟩ := id K
  have hl : lv_has ls 2 [(0, .ref a)] := hl
  refine lv_aload_n hx hb dX12_init_0 rfl (lv_at hl 0 rfl) ?_
  refine W.objInit hx hb hown (hts _ (List.mem_cons_of_mem _ wsMw_0)) (hts _ (List.mem_cons_of_mem _ wsMw_1)) (hts _ (List.mem_cons_of_mem _ wsMw_2)) rfl (by rw [hml]; exact hl.1) rfl dX12_init_1 (Nat.le_of_ble_eq_true rfl) (Nat.le_of_ble_eq_true rfl) ?_
  refine W.eq (g2 := F0 m_ 4 ls []) rfl ?_
  refine lv_aload_n hx hb dX12_init_4 rfl (lv_at hl 0 rfl) ?_
  refine xi_bipush hx hb dX12_init_5 (by decide) ?_
  refine g_newa (atype := .long) (ci := 1) (ty := .long) hx hb (hts _ aM_long) rfl hK rfl (fun cA h => Option.some.inj (h.symm.trans ((hK.1.2 1 (cy 1, .long) rfl).2))) hW 1 (n := iI 21) (N' := 21) (a0 := (21, .inr (.inl (lA (fun _ => 0))))) (fun _ => rfl) (by decide) (by decide) (Nat.le_of_ble_eq_true rfl) (Nat.le_of_ble_eq_true rfl) (Nat.le_of_ble_eq_true rfl) dX12_init_7 (fun q1 H hW hne => ?_)
  refine g_putF (ref := RX12) (T := TX12) (N := 37) (ci := 13) (ty := tyX12 1) hx hb hts hin tyX12 tyX12_ok nmX12 hown hK hW 0 (a := a) (fs := cV ix0 1) rfl rfl 1 (by decide) (hts _ lM_account) (fun x h => h) rfl hnm rfl (by decide +kernel) rfl rfl (by simp [cV]) dX12_init_9 (fun H locs hW => ?_)
  rw [cW_step (n := 1) (f := 1) (by intro i h1 h2; omega) (by decide) (by decide) (by decide) (by decide) (e := .inl (cy 1, (21, .inr (.inl (lA (fun _ => 0)))))) rfl q1] at hW
  generalize nx ix0 (1 + 100) q1 = ix1 at hW
  refine lv_aload_n hx hb dX12_init_12 rfl (lv_at hl 0 rfl) ?_
  refine xi_bipush hx hb dX12_init_13 (by decide) ?_
  refine g_newa (atype := .int) (ci := 0) (ty := .int) hx hb (hts _ aM_int) rfl hK rfl (fun cA h => Option.some.inj (h.symm.trans ((hK.1.2 0 (cy 0, .int) rfl).2))) hW 2 (n := iI 18) (N' := 18) (a0 := (18, .inl (iA (fun _ => 0)))) (fun _ => rfl) (by decide) (by decide) (Nat.le_of_ble_eq_true rfl) (Nat.le_of_ble_eq_true rfl) (Nat.le_of_ble_eq_true rfl) dX12_init_15 (fun q1 H hW hne => ?_)
  refine g_putF (ref := RX12) (T := TX12) (N := 37) (ci := 13) (ty := tyX12 2) hx hb hts hin tyX12 tyX12_ok nmX12 hown hK hW 0 (a := a) (fs := cV ix1 2) rfl rfl 2 (by decide) (hts _ lM_line) (fun x h => h) rfl hnm rfl (by decide +kernel) rfl rfl (by simp [cV]) dX12_init_17 (fun H locs hW => ?_)
  rw [cW_step (n := 2) (f := 2) (by intro i h1 h2; omega) (by decide) (by decide) (by decide) (by decide) (e := .inl (cy 0, (18, .inl (iA (fun _ => 0))))) rfl q1] at hW
  generalize nx ix1 (2 + 100) q1 = ix2 at hW
  refine lv_aload_n hx hb dX12_init_20 rfl (lv_at hl 0 rfl) ?_
  refine xi_bipush hx hb dX12_init_21 (by decide) ?_
  refine g_newa (atype := .int) (ci := 0) (ty := .int) hx hb (hts _ aM_int) rfl hK rfl (fun cA h => Option.some.inj (h.symm.trans ((hK.1.2 0 (cy 0, .int) rfl).2))) hW 3 (n := iI 108) (N' := 108) (a0 := (108, .inl (iA (fun _ => 0)))) (fun _ => rfl) (by decide) (by decide) (Nat.le_of_ble_eq_true rfl) (Nat.le_of_ble_eq_true rfl) (Nat.le_of_ble_eq_true rfl) dX12_init_23 (fun q1 H hW hne => ?_)
  refine g_putF (ref := RX12) (T := TX12) (N := 37) (ci := 13) (ty := tyX12 3) hx hb hts hin tyX12 tyX12_ok nmX12 hown hK hW 0 (a := a) (fs := cV ix2 3) rfl rfl 3 (by decide) (hts _ lM_limit) (fun x h => h) rfl hnm rfl (by decide +kernel) rfl rfl (by simp [cV]) dX12_init_25 (fun H locs hW => ?_)
  rw [cW_step (n := 3) (f := 3) (by intro i h1 h2; omega) (by decide) (by decide) (by decide) (by decide) (e := .inl (cy 0, (108, .inl (iA (fun _ => 0))))) rfl q1] at hW
  generalize nx ix2 (3 + 100) q1 = ix3 at hW
  refine lv_aload_n hx hb dX12_init_28 rfl (lv_at hl 0 rfl) ?_
  refine xi_bipush hx hb dX12_init_29 (by decide) ?_
  refine g_newa (atype := .long) (ci := 1) (ty := .long) hx hb (hts _ aM_long) rfl hK rfl (fun cA h => Option.some.inj (h.symm.trans ((hK.1.2 1 (cy 1, .long) rfl).2))) hW 4 (n := iI 108) (N' := 108) (a0 := (108, .inr (.inl (lA (fun _ => 0))))) (fun _ => rfl) (by decide) (by decide) (Nat.le_of_ble_eq_true rfl) (Nat.le_of_ble_eq_true rfl) (Nat.le_of_ble_eq_true rfl) dX12_init_31 (fun q1 H hW hne => ?_)
  refine g_putF (ref := RX12) (T := TX12) (N := 37) (ci := 13) (ty := tyX12 4) hx hb hts hin tyX12 tyX12_ok nmX12 hown hK hW 0 (a := a) (fs := cV ix3 4) rfl rfl 4 (by decide) (hts _ lM_paid) (fun x h => h) rfl hnm rfl (by decide +kernel) rfl rfl (by simp [cV]) dX12_init_33 (fun H locs hW => ?_)
  rw [cW_step (n := 4) (f := 4) (by intro i h1 h2; omega) (by decide) (by decide) (by decide) (by decide) (e := .inl (cy 1, (108, .inr (.inl (lA (fun _ => 0)))))) rfl q1] at hW
  generalize nx ix3 (4 + 100) q1 = ix4 at hW
  refine lv_aload_n hx hb dX12_init_36 rfl (lv_at hl 0 rfl) ?_
  refine xi_bipush hx hb dX12_init_37 (by decide) ?_
  refine g_newa (atype := .boolean) (ci := 2) (ty := .boolean) hx hb (hts _ aM_boolean) rfl hK rfl (fun cA h => Option.some.inj (h.symm.trans ((hK.1.2 2 (cy 2, .boolean) rfl).2))) hW 5 (n := iI 6) (N' := 6) (a0 := (6, .inl (iA (fun _ => 0)))) (fun _ => rfl) (by decide) (by decide) (Nat.le_of_ble_eq_true rfl) (Nat.le_of_ble_eq_true rfl) (Nat.le_of_ble_eq_true rfl) dX12_init_39 (fun q1 H hW hne => ?_)
  refine g_putF (ref := RX12) (T := TX12) (N := 37) (ci := 13) (ty := tyX12 5) hx hb hts hin tyX12 tyX12_ok nmX12 hown hK hW 0 (a := a) (fs := cV ix4 5) rfl rfl 5 (by decide) (hts _ lM_isOut) (fun x h => h) rfl hnm rfl (by decide +kernel) rfl rfl (by simp [cV]) dX12_init_41 (fun H locs hW => ?_)
  rw [cW_step (n := 5) (f := 5) (by intro i h1 h2; omega) (by decide) (by decide) (by decide) (by decide) (e := .inl (cy 2, (6, .inl (iA (fun _ => 0))))) rfl q1] at hW
  generalize nx ix4 (5 + 100) q1 = ix5 at hW
  refine lv_aload_n hx hb dX12_init_44 rfl (lv_at hl 0 rfl) ?_
  refine xi_sipush hx hb dX12_init_45 (by decide) ?_
  refine g_newa (atype := .boolean) (ci := 2) (ty := .boolean) hx hb (hts _ aM_boolean) rfl hK rfl (fun cA h => Option.some.inj (h.symm.trans ((hK.1.2 2 (cy 2, .boolean) rfl).2))) hW 6 (n := iI 3000) (N' := 3000) (a0 := (3000, .inl (iA (fun _ => 0)))) (fun _ => rfl) (by decide) (by decide) (Nat.le_of_ble_eq_true rfl) (Nat.le_of_ble_eq_true rfl) (Nat.le_of_ble_eq_true rfl) dX12_init_48 (fun q1 H hW hne => ?_)
  refine g_putF (ref := RX12) (T := TX12) (N := 37) (ci := 13) (ty := tyX12 6) hx hb hts hin tyX12 tyX12_ok nmX12 hown hK hW 0 (a := a) (fs := cV ix5 6) rfl rfl 6 (by decide) (hts _ lM_isHoliday) (fun x h => h) rfl hnm rfl (by decide +kernel) rfl rfl (by simp [cV]) dX12_init_50 (fun H locs hW => ?_)
  rw [cW_step (n := 6) (f := 6) (by intro i h1 h2; omega) (by decide) (by decide) (by decide) (by decide) (e := .inl (cy 2, (3000, .inl (iA (fun _ => 0))))) rfl q1] at hW
  generalize nx ix5 (6 + 100) q1 = ix6 at hW
  refine lv_aload_n hx hb dX12_init_53 rfl (lv_at hl 0 rfl) ?_
  refine xi_bipush hx hb dX12_init_54 (by decide) ?_
  refine g_newa (atype := .boolean) (ci := 2) (ty := .boolean) hx hb (hts _ aM_boolean) rfl hK rfl (fun cA h => Option.some.inj (h.symm.trans ((hK.1.2 2 (cy 2, .boolean) rfl).2))) hW 7 (n := iI 20) (N' := 20) (a0 := (20, .inl (iA (fun _ => 0)))) (fun _ => rfl) (by decide) (by decide) (Nat.le_of_ble_eq_true rfl) (Nat.le_of_ble_eq_true rfl) (Nat.le_of_ble_eq_true rfl) dX12_init_56 (fun q1 H hW hne => ?_)
  refine g_putF (ref := RX12) (T := TX12) (N := 37) (ci := 13) (ty := tyX12 7) hx hb hts hin tyX12 tyX12_ok nmX12 hown hK hW 0 (a := a) (fs := cV ix6 7) rfl rfl 7 (by decide) (hts _ lM_isListed) (fun x h => h) rfl hnm rfl (by decide +kernel) rfl rfl (by simp [cV]) dX12_init_58 (fun H locs hW => ?_)
  rw [cW_step (n := 7) (f := 7) (by intro i h1 h2; omega) (by decide) (by decide) (by decide) (by decide) (e := .inl (cy 2, (20, .inl (iA (fun _ => 0))))) rfl q1] at hW
  generalize nx ix6 (7 + 100) q1 = ix7 at hW
  refine lv_aload_n hx hb dX12_init_61 rfl (lv_at hl 0 rfl) ?_
  refine xi_bipush hx hb dX12_init_62 (by decide) ?_
  refine g_newa (atype := .int) (ci := 0) (ty := .int) hx hb (hts _ aM_int) rfl hK rfl (fun cA h => Option.some.inj (h.symm.trans ((hK.1.2 0 (cy 0, .int) rfl).2))) hW 9 (n := iI 60) (N' := 60) (a0 := (60, .inl (iA (fun _ => 0)))) (fun _ => rfl) (by decide) (by decide) (Nat.le_of_ble_eq_true rfl) (Nat.le_of_ble_eq_true rfl) (Nat.le_of_ble_eq_true rfl) dX12_init_64 (fun q1 H hW hne => ?_)
  refine g_putF (ref := RX12) (T := TX12) (N := 37) (ci := 13) (ty := tyX12 9) hx hb hts hin tyX12 tyX12_ok nmX12 hown hK hW 0 (a := a) (fs := cV ix7 8) rfl rfl 9 (by decide) (hts _ lM_from) (fun x h => h) rfl hnm rfl (by decide +kernel) rfl rfl (by simp [cV]) dX12_init_66 (fun H locs hW => ?_)
  rw [cW_step (n := 8) (f := 9) (by intro i h1 h2; rcases (show i = 8 by omega) with rfl <;> rfl) (by decide) (by decide) (by decide) (by decide) (e := .inl (cy 0, (60, .inl (iA (fun _ => 0))))) rfl q1] at hW
  generalize nx ix7 (9 + 100) q1 = ix8 at hW
  refine lv_aload_n hx hb dX12_init_69 rfl (lv_at hl 0 rfl) ?_
  refine xi_bipush hx hb dX12_init_70 (by decide) ?_
  refine g_newa (atype := .int) (ci := 0) (ty := .int) hx hb (hts _ aM_int) rfl hK rfl (fun cA h => Option.some.inj (h.symm.trans ((hK.1.2 0 (cy 0, .int) rfl).2))) hW 10 (n := iI 60) (N' := 60) (a0 := (60, .inl (iA (fun _ => 0)))) (fun _ => rfl) (by decide) (by decide) (Nat.le_of_ble_eq_true rfl) (Nat.le_of_ble_eq_true rfl) (Nat.le_of_ble_eq_true rfl) dX12_init_72 (fun q1 H hW hne => ?_)
  refine g_putF (ref := RX12) (T := TX12) (N := 37) (ci := 13) (ty := tyX12 10) hx hb hts hin tyX12 tyX12_ok nmX12 hown hK hW 0 (a := a) (fs := cV ix8 10) rfl rfl 10 (by decide) (hts _ lM_to) (fun x h => h) rfl hnm rfl (by decide +kernel) rfl rfl (by simp [cV]) dX12_init_74 (fun H locs hW => ?_)
  rw [cW_step (n := 10) (f := 10) (by intro i h1 h2; omega) (by decide) (by decide) (by decide) (by decide) (e := .inl (cy 0, (60, .inl (iA (fun _ => 0))))) rfl q1] at hW
  generalize nx ix8 (10 + 100) q1 = ix9 at hW
  refine lv_aload_n hx hb dX12_init_77 rfl (lv_at hl 0 rfl) ?_
  refine xi_bipush hx hb dX12_init_78 (by decide) ?_
  refine g_newa (atype := .int) (ci := 0) (ty := .int) hx hb (hts _ aM_int) rfl hK rfl (fun cA h => Option.some.inj (h.symm.trans ((hK.1.2 0 (cy 0, .int) rfl).2))) hW 11 (n := iI 60) (N' := 60) (a0 := (60, .inl (iA (fun _ => 0)))) (fun _ => rfl) (by decide) (by decide) (Nat.le_of_ble_eq_true rfl) (Nat.le_of_ble_eq_true rfl) (Nat.le_of_ble_eq_true rfl) dX12_init_80 (fun q1 H hW hne => ?_)
  refine g_putF (ref := RX12) (T := TX12) (N := 37) (ci := 13) (ty := tyX12 11) hx hb hts hin tyX12 tyX12_ok nmX12 hown hK hW 0 (a := a) (fs := cV ix9 11) rfl rfl 11 (by decide) (hts _ lM_currency) (fun x h => h) rfl hnm rfl (by decide +kernel) rfl rfl (by simp [cV]) dX12_init_82 (fun H locs hW => ?_)
  rw [cW_step (n := 11) (f := 11) (by intro i h1 h2; omega) (by decide) (by decide) (by decide) (by decide) (e := .inl (cy 0, (60, .inl (iA (fun _ => 0))))) rfl q1] at hW
  generalize nx ix9 (11 + 100) q1 = ix10 at hW
  refine lv_aload_n hx hb dX12_init_85 rfl (lv_at hl 0 rfl) ?_
  refine xi_bipush hx hb dX12_init_86 (by decide) ?_
  refine g_newa (atype := .int) (ci := 0) (ty := .int) hx hb (hts _ aM_int) rfl hK rfl (fun cA h => Option.some.inj (h.symm.trans ((hK.1.2 0 (cy 0, .int) rfl).2))) hW 12 (n := iI 60) (N' := 60) (a0 := (60, .inl (iA (fun _ => 0)))) (fun _ => rfl) (by decide) (by decide) (Nat.le_of_ble_eq_true rfl) (Nat.le_of_ble_eq_true rfl) (Nat.le_of_ble_eq_true rfl) dX12_init_88 (fun q1 H hW hne => ?_)
  refine g_putF (ref := RX12) (T := TX12) (N := 37) (ci := 13) (ty := tyX12 12) hx hb hts hin tyX12 tyX12_ok nmX12 hown hK hW 0 (a := a) (fs := cV ix10 12) rfl rfl 12 (by decide) (hts _ lM_amount) (fun x h => h) rfl hnm rfl (by decide +kernel) rfl rfl (by simp [cV]) dX12_init_90 (fun H locs hW => ?_)
  rw [cW_step (n := 12) (f := 12) (by intro i h1 h2; omega) (by decide) (by decide) (by decide) (by decide) (e := .inl (cy 0, (60, .inl (iA (fun _ => 0))))) rfl q1] at hW
  generalize nx ix10 (12 + 100) q1 = ix11 at hW
  refine lv_aload_n hx hb dX12_init_93 rfl (lv_at hl 0 rfl) ?_
  refine xi_bipush hx hb dX12_init_94 (by decide) ?_
  refine g_newa (atype := .int) (ci := 0) (ty := .int) hx hb (hts _ aM_int) rfl hK rfl (fun cA h => Option.some.inj (h.symm.trans ((hK.1.2 0 (cy 0, .int) rfl).2))) hW 13 (n := iI 60) (N' := 60) (a0 := (60, .inl (iA (fun _ => 0)))) (fun _ => rfl) (by decide) (by decide) (Nat.le_of_ble_eq_true rfl) (Nat.le_of_ble_eq_true rfl) (Nat.le_of_ble_eq_true rfl) dX12_init_96 (fun q1 H hW hne => ?_)
  refine g_putF (ref := RX12) (T := TX12) (N := 37) (ci := 13) (ty := tyX12 13) hx hb hts hin tyX12 tyX12_ok nmX12 hown hK hW 0 (a := a) (fs := cV ix11 13) rfl rfl 13 (by decide) (hts _ lM_payee) (fun x h => h) rfl hnm rfl (by decide +kernel) rfl rfl (by simp [cV]) dX12_init_98 (fun H locs hW => ?_)
  rw [cW_step (n := 13) (f := 13) (by intro i h1 h2; omega) (by decide) (by decide) (by decide) (by decide) (e := .inl (cy 0, (60, .inl (iA (fun _ => 0))))) rfl q1] at hW
  generalize nx ix11 (13 + 100) q1 = ix12 at hW
  refine lv_aload_n hx hb dX12_init_101 rfl (lv_at hl 0 rfl) ?_
  refine xi_bipush hx hb dX12_init_102 (by decide) ?_
  refine g_newa (atype := .int) (ci := 0) (ty := .int) hx hb (hts _ aM_int) rfl hK rfl (fun cA h => Option.some.inj (h.symm.trans ((hK.1.2 0 (cy 0, .int) rfl).2))) hW 14 (n := iI 60) (N' := 60) (a0 := (60, .inl (iA (fun _ => 0)))) (fun _ => rfl) (by decide) (by decide) (Nat.le_of_ble_eq_true rfl) (Nat.le_of_ble_eq_true rfl) (Nat.le_of_ble_eq_true rfl) dX12_init_104 (fun q1 H hW hne => ?_)
  refine g_putF (ref := RX12) (T := TX12) (N := 37) (ci := 13) (ty := tyX12 14) hx hb hts hin tyX12 tyX12_ok nmX12 hown hK hW 0 (a := a) (fs := cV ix12 14) rfl rfl 14 (by decide) (hts _ lM_rank) (fun x h => h) rfl hnm rfl (by decide +kernel) rfl rfl (by simp [cV]) dX12_init_106 (fun H locs hW => ?_)
  rw [cW_step (n := 14) (f := 14) (by intro i h1 h2; omega) (by decide) (by decide) (by decide) (by decide) (e := .inl (cy 0, (60, .inl (iA (fun _ => 0))))) rfl q1] at hW
  generalize nx ix12 (14 + 100) q1 = ix13 at hW
  refine lv_aload_n hx hb dX12_init_109 rfl (lv_at hl 0 rfl) ?_
  refine xi_bipush hx hb dX12_init_110 (by decide) ?_
  refine g_newa (atype := .boolean) (ci := 2) (ty := .boolean) hx hb (hts _ aM_boolean) rfl hK rfl (fun cA h => Option.some.inj (h.symm.trans ((hK.1.2 2 (cy 2, .boolean) rfl).2))) hW 15 (n := iI 60) (N' := 60) (a0 := (60, .inl (iA (fun _ => 0)))) (fun _ => rfl) (by decide) (by decide) (Nat.le_of_ble_eq_true rfl) (Nat.le_of_ble_eq_true rfl) (Nat.le_of_ble_eq_true rfl) dX12_init_112 (fun q1 H hW hne => ?_)
  refine g_putF (ref := RX12) (T := TX12) (N := 37) (ci := 13) (ty := tyX12 15) hx hb hts hin tyX12 tyX12_ok nmX12 hown hK hW 0 (a := a) (fs := cV ix13 15) rfl rfl 15 (by decide) (hts _ lM_isReal) (fun x h => h) rfl hnm rfl (by decide +kernel) rfl rfl (by simp [cV]) dX12_init_114 (fun H locs hW => ?_)
  rw [cW_step (n := 15) (f := 15) (by intro i h1 h2; omega) (by decide) (by decide) (by decide) (by decide) (e := .inl (cy 2, (60, .inl (iA (fun _ => 0))))) rfl q1] at hW
  generalize nx ix13 (15 + 100) q1 = ix14 at hW
  refine lv_aload_n hx hb dX12_init_117 rfl (lv_at hl 0 rfl) ?_
  refine xi_bipush hx hb dX12_init_118 (by decide) ?_
  refine g_newa (atype := .int) (ci := 0) (ty := .int) hx hb (hts _ aM_int) rfl hK rfl (fun cA h => Option.some.inj (h.symm.trans ((hK.1.2 0 (cy 0, .int) rfl).2))) hW 16 (n := iI 60) (N' := 60) (a0 := (60, .inl (iA (fun _ => 0)))) (fun _ => rfl) (by decide) (by decide) (Nat.le_of_ble_eq_true rfl) (Nat.le_of_ble_eq_true rfl) (Nat.le_of_ble_eq_true rfl) dX12_init_120 (fun q1 H hW hne => ?_)
  refine g_putF (ref := RX12) (T := TX12) (N := 37) (ci := 13) (ty := tyX12 16) hx hb hts hin tyX12 tyX12_ok nmX12 hown hK hW 0 (a := a) (fs := cV ix14 16) rfl rfl 16 (by decide) (hts _ lM_day) (fun x h => h) rfl hnm rfl (by decide +kernel) rfl rfl (by simp [cV]) dX12_init_122 (fun H locs hW => ?_)
  rw [cW_step (n := 16) (f := 16) (by intro i h1 h2; omega) (by decide) (by decide) (by decide) (by decide) (e := .inl (cy 0, (60, .inl (iA (fun _ => 0))))) rfl q1] at hW
  generalize nx ix14 (16 + 100) q1 = ix15 at hW
  refine lv_aload_n hx hb dX12_init_125 rfl (lv_at hl 0 rfl) ?_
  refine xi_bipush hx hb dX12_init_126 (by decide) ?_
  refine g_newa (atype := .boolean) (ci := 2) (ty := .boolean) hx hb (hts _ aM_boolean) rfl hK rfl (fun cA h => Option.some.inj (h.symm.trans ((hK.1.2 2 (cy 2, .boolean) rfl).2))) hW 17 (n := iI 60) (N' := 60) (a0 := (60, .inl (iA (fun _ => 0)))) (fun _ => rfl) (by decide) (by decide) (Nat.le_of_ble_eq_true rfl) (Nat.le_of_ble_eq_true rfl) (Nat.le_of_ble_eq_true rfl) dX12_init_128 (fun q1 H hW hne => ?_)
  refine g_putF (ref := RX12) (T := TX12) (N := 37) (ci := 13) (ty := tyX12 17) hx hb hts hin tyX12 tyX12_ok nmX12 hown hK hW 0 (a := a) (fs := cV ix15 17) rfl rfl 17 (by decide) (hts _ lM_stays) (fun x h => h) rfl hnm rfl (by decide +kernel) rfl rfl (by simp [cV]) dX12_init_130 (fun H locs hW => ?_)
  rw [cW_step (n := 17) (f := 17) (by intro i h1 h2; omega) (by decide) (by decide) (by decide) (by decide) (e := .inl (cy 2, (60, .inl (iA (fun _ => 0))))) rfl q1] at hW
  generalize nx ix15 (17 + 100) q1 = ix16 at hW
  refine lv_aload_n hx hb dX12_init_133 rfl (lv_at hl 0 rfl) ?_
  refine xi_bipush hx hb dX12_init_134 (by decide) ?_
  refine g_newa (atype := .int) (ci := 0) (ty := .int) hx hb (hts _ aM_int) rfl hK rfl (fun cA h => Option.some.inj (h.symm.trans ((hK.1.2 0 (cy 0, .int) rfl).2))) hW 18 (n := iI 60) (N' := 60) (a0 := (60, .inl (iA (fun _ => 0)))) (fun _ => rfl) (by decide) (by decide) (Nat.le_of_ble_eq_true rfl) (Nat.le_of_ble_eq_true rfl) (Nat.le_of_ble_eq_true rfl) dX12_init_136 (fun q1 H hW hne => ?_)
  refine g_putF (ref := RX12) (T := TX12) (N := 37) (ci := 13) (ty := tyX12 18) hx hb hts hin tyX12 tyX12_ok nmX12 hown hK hW 0 (a := a) (fs := cV ix16 18) rfl rfl 18 (by decide) (hts _ lM_state) (fun x h => h) rfl hnm rfl (by decide +kernel) rfl rfl (by simp [cV]) dX12_init_138 (fun H locs hW => ?_)
  rw [cW_step (n := 18) (f := 18) (by intro i h1 h2; omega) (by decide) (by decide) (by decide) (by decide) (e := .inl (cy 0, (60, .inl (iA (fun _ => 0))))) rfl q1] at hW
  generalize nx ix16 (18 + 100) q1 = ix17 at hW
  refine lv_aload_n hx hb dX12_init_141 rfl (lv_at hl 0 rfl) ?_
  refine xi_bipush hx hb dX12_init_142 (by decide) ?_
  refine g_newa (atype := .boolean) (ci := 2) (ty := .boolean) hx hb (hts _ aM_boolean) rfl hK rfl (fun cA h => Option.some.inj (h.symm.trans ((hK.1.2 2 (cy 2, .boolean) rfl).2))) hW 19 (n := iI 60) (N' := 60) (a0 := (60, .inl (iA (fun _ => 0)))) (fun _ => rfl) (by decide) (by decide) (Nat.le_of_ble_eq_true rfl) (Nat.le_of_ble_eq_true rfl) (Nat.le_of_ble_eq_true rfl) dX12_init_144 (fun q1 H hW hne => ?_)
  refine g_putF (ref := RX12) (T := TX12) (N := 37) (ci := 13) (ty := tyX12 19) hx hb hts hin tyX12 tyX12_ok nmX12 hown hK hW 0 (a := a) (fs := cV ix17 19) rfl rfl 19 (by decide) (hts _ lM_isReleased) (fun x h => h) rfl hnm rfl (by decide +kernel) rfl rfl (by simp [cV]) dX12_init_146 (fun H locs hW => ?_)
  rw [cW_step (n := 19) (f := 19) (by intro i h1 h2; omega) (by decide) (by decide) (by decide) (by decide) (e := .inl (cy 2, (60, .inl (iA (fun _ => 0))))) rfl q1] at hW
  generalize nx ix17 (19 + 100) q1 = ix18 at hW
  refine lv_aload_n hx hb dX12_init_149 rfl (lv_at hl 0 rfl) ?_
  refine xi_bipush hx hb dX12_init_150 (by decide) ?_
  refine g_newa (atype := .int) (ci := 0) (ty := .int) hx hb (hts _ aM_int) rfl hK rfl (fun cA h => Option.some.inj (h.symm.trans ((hK.1.2 0 (cy 0, .int) rfl).2))) hW 20 (n := iI 60) (N' := 60) (a0 := (60, .inl (iA (fun _ => 0)))) (fun _ => rfl) (by decide) (by decide) (Nat.le_of_ble_eq_true rfl) (Nat.le_of_ble_eq_true rfl) (Nat.le_of_ble_eq_true rfl) dX12_init_152 (fun q1 H hW hne => ?_)
  refine g_putF (ref := RX12) (T := TX12) (N := 37) (ci := 13) (ty := tyX12 20) hx hb hts hin tyX12 tyX12_ok nmX12 hown hK hW 0 (a := a) (fs := cV ix18 20) rfl rfl 20 (by decide) (hts _ lM_officer) (fun x h => h) rfl hnm rfl (by decide +kernel) rfl rfl (by simp [cV]) dX12_init_154 (fun H locs hW => ?_)
  rw [cW_step (n := 20) (f := 20) (by intro i h1 h2; omega) (by decide) (by decide) (by decide) (by decide) (e := .inl (cy 0, (60, .inl (iA (fun _ => 0))))) rfl q1] at hW
  generalize nx ix18 (20 + 100) q1 = ix19 at hW
  refine lv_aload_n hx hb dX12_init_157 rfl (lv_at hl 0 rfl) ?_
  refine xi_bipush hx hb dX12_init_158 (by decide) ?_
  refine g_newa (atype := .int) (ci := 0) (ty := .int) hx hb (hts _ aM_int) rfl hK rfl (fun cA h => Option.some.inj (h.symm.trans ((hK.1.2 0 (cy 0, .int) rfl).2))) hW 21 (n := iI 60) (N' := 60) (a0 := (60, .inl (iA (fun _ => 0)))) (fun _ => rfl) (by decide) (by decide) (Nat.le_of_ble_eq_true rfl) (Nat.le_of_ble_eq_true rfl) (Nat.le_of_ble_eq_true rfl) dX12_init_160 (fun q1 H hW hne => ?_)
  refine g_putF (ref := RX12) (T := TX12) (N := 37) (ci := 13) (ty := tyX12 21) hx hb hts hin tyX12 tyX12_ok nmX12 hown hK hW 0 (a := a) (fs := cV ix19 21) rfl rfl 21 (by decide) (hts _ lM_leg) (fun x h => h) rfl hnm rfl (by decide +kernel) rfl rfl (by simp [cV]) dX12_init_162 (fun H locs hW => ?_)
  rw [cW_step (n := 21) (f := 21) (by intro i h1 h2; omega) (by decide) (by decide) (by decide) (by decide) (e := .inl (cy 0, (60, .inl (iA (fun _ => 0))))) rfl q1] at hW
  generalize nx ix19 (21 + 100) q1 = ix20 at hW
  refine lv_aload_n hx hb dX12_init_165 rfl (lv_at hl 0 rfl) ?_
  refine xi_bipush hx hb dX12_init_166 (by decide) ?_
  refine g_newa (atype := .int) (ci := 0) (ty := .int) hx hb (hts _ aM_int) rfl hK rfl (fun cA h => Option.some.inj (h.symm.trans ((hK.1.2 0 (cy 0, .int) rfl).2))) hW 22 (n := iI 60) (N' := 60) (a0 := (60, .inl (iA (fun _ => 0)))) (fun _ => rfl) (by decide) (by decide) (Nat.le_of_ble_eq_true rfl) (Nat.le_of_ble_eq_true rfl) (Nat.le_of_ble_eq_true rfl) dX12_init_168 (fun q1 H hW hne => ?_)
  refine g_putF (ref := RX12) (T := TX12) (N := 37) (ci := 13) (ty := tyX12 22) hx hb hts hin tyX12 tyX12_ok nmX12 hown hK hW 0 (a := a) (fs := cV ix20 22) rfl rfl 22 (by decide) (hts _ lM_finalOn) (fun x h => h) rfl hnm rfl (by decide +kernel) rfl rfl (by simp [cV]) dX12_init_170 (fun H locs hW => ?_)
  rw [cW_step (n := 22) (f := 22) (by intro i h1 h2; omega) (by decide) (by decide) (by decide) (by decide) (e := .inl (cy 0, (60, .inl (iA (fun _ => 0))))) rfl q1] at hW
  generalize nx ix20 (22 + 100) q1 = ix21 at hW
  refine lv_aload_n hx hb dX12_init_173 rfl (lv_at hl 0 rfl) ?_
  refine xi_bipush hx hb dX12_init_174 (by decide) ?_
  refine g_newa (atype := .int) (ci := 0) (ty := .int) hx hb (hts _ aM_int) rfl hK rfl (fun cA h => Option.some.inj (h.symm.trans ((hK.1.2 0 (cy 0, .int) rfl).2))) hW 23 (n := iI 60) (N' := 60) (a0 := (60, .inl (iA (fun _ => 0)))) (fun _ => rfl) (by decide) (by decide) (Nat.le_of_ble_eq_true rfl) (Nat.le_of_ble_eq_true rfl) (Nat.le_of_ble_eq_true rfl) dX12_init_176 (fun q1 H hW hne => ?_)
  refine g_putF (ref := RX12) (T := TX12) (N := 37) (ci := 13) (ty := tyX12 23) hx hb hts hin tyX12 tyX12_ok nmX12 hown hK hW 0 (a := a) (fs := cV ix21 23) rfl rfl 23 (by decide) (hts _ lM_recalledOn) (fun x h => h) rfl hnm rfl (by decide +kernel) rfl rfl (by simp [cV]) dX12_init_178 (fun H locs hW => ?_)
  rw [cW_step (n := 23) (f := 23) (by intro i h1 h2; omega) (by decide) (by decide) (by decide) (by decide) (e := .inl (cy 0, (60, .inl (iA (fun _ => 0))))) rfl q1] at hW
  generalize nx ix21 (23 + 100) q1 = ix22 at hW
  refine lv_aload_n hx hb dX12_init_181 rfl (lv_at hl 0 rfl) ?_
  refine xi_bipush hx hb dX12_init_182 (by decide) ?_
  refine g_newa (atype := .boolean) (ci := 2) (ty := .boolean) hx hb (hts _ aM_boolean) rfl hK rfl (fun cA h => Option.some.inj (h.symm.trans ((hK.1.2 2 (cy 2, .boolean) rfl).2))) hW 24 (n := iI 60) (N' := 60) (a0 := (60, .inl (iA (fun _ => 0)))) (fun _ => rfl) (by decide) (by decide) (Nat.le_of_ble_eq_true rfl) (Nat.le_of_ble_eq_true rfl) (Nat.le_of_ble_eq_true rfl) dX12_init_184 (fun q1 H hW hne => ?_)
  refine g_putF (ref := RX12) (T := TX12) (N := 37) (ci := 13) (ty := tyX12 24) hx hb hts hin tyX12 tyX12_ok nmX12 hown hK hW 0 (a := a) (fs := cV ix22 24) rfl rfl 24 (by decide) (hts _ lM_isAnswered) (fun x h => h) rfl hnm rfl (by decide +kernel) rfl rfl (by simp [cV]) dX12_init_186 (fun H locs hW => ?_)
  rw [cW_step (n := 24) (f := 24) (by intro i h1 h2; omega) (by decide) (by decide) (by decide) (by decide) (e := .inl (cy 2, (60, .inl (iA (fun _ => 0))))) rfl q1] at hW
  generalize nx ix22 (24 + 100) q1 = ix23 at hW
  refine lv_aload_n hx hb dX12_init_189 rfl (lv_at hl 0 rfl) ?_
  refine xi_sipush hx hb dX12_init_190 (by decide) ?_
  refine g_newa (atype := .int) (ci := 0) (ty := .int) hx hb (hts _ aM_int) rfl hK rfl (fun cA h => Option.some.inj (h.symm.trans ((hK.1.2 0 (cy 0, .int) rfl).2))) hW 25 (n := iI 600) (N' := 600) (a0 := (600, .inl (iA (fun _ => 0)))) (fun _ => rfl) (by decide) (by decide) (Nat.le_of_ble_eq_true rfl) (Nat.le_of_ble_eq_true rfl) (Nat.le_of_ble_eq_true rfl) dX12_init_193 (fun q1 H hW hne => ?_)
  refine g_putF (ref := RX12) (T := TX12) (N := 37) (ci := 13) (ty := tyX12 25) hx hb hts hin tyX12 tyX12_ok nmX12 hown hK hW 0 (a := a) (fs := cV ix23 25) rfl rfl 25 (by decide) (hts _ lM_message) (fun x h => h) rfl hnm rfl (by decide +kernel) rfl rfl (by simp [cV]) dX12_init_195 (fun H locs hW => ?_)
  rw [cW_step (n := 25) (f := 25) (by intro i h1 h2; omega) (by decide) (by decide) (by decide) (by decide) (e := .inl (cy 0, (600, .inl (iA (fun _ => 0))))) rfl q1] at hW
  generalize nx ix23 (25 + 100) q1 = ix24 at hW
  refine lv_aload_n hx hb dX12_init_198 rfl (lv_at hl 0 rfl) ?_
  refine xi_bipush hx hb dX12_init_199 (by decide) ?_
  refine g_newa (atype := .int) (ci := 0) (ty := .int) hx hb (hts _ aM_int) rfl hK rfl (fun cA h => Option.some.inj (h.symm.trans ((hK.1.2 0 (cy 0, .int) rfl).2))) hW 28 (n := iI 60) (N' := 60) (a0 := (60, .inl (iA (fun _ => 0)))) (fun _ => rfl) (by decide) (by decide) (Nat.le_of_ble_eq_true rfl) (Nat.le_of_ble_eq_true rfl) (Nat.le_of_ble_eq_true rfl) dX12_init_201 (fun q1 H hW hne => ?_)
  refine g_putF (ref := RX12) (T := TX12) (N := 37) (ci := 13) (ty := tyX12 28) hx hb hts hin tyX12 tyX12_ok nmX12 hown hK hW 0 (a := a) (fs := cV ix24 26) rfl rfl 28 (by decide) (hts _ lM_finished) (fun x h => h) rfl hnm rfl (by decide +kernel) rfl rfl (by simp [cV]) dX12_init_203 (fun H locs hW => ?_)
  rw [cW_step (n := 26) (f := 28) (by intro i h1 h2; rcases (show i = 26 ∨ i = 27 by omega) with rfl | rfl <;> rfl) (by decide) (by decide) (by decide) (by decide) (e := .inl (cy 0, (60, .inl (iA (fun _ => 0))))) rfl q1] at hW
  generalize nx ix24 (28 + 100) q1 = ix25 at hW
  refine lv_aload_n hx hb dX12_init_206 rfl (lv_at hl 0 rfl) ?_
  refine xi_bipush hx hb dX12_init_207 (by decide) ?_
  refine g_newa (atype := .int) (ci := 0) (ty := .int) hx hb (hts _ aM_int) rfl hK rfl (fun cA h => Option.some.inj (h.symm.trans ((hK.1.2 0 (cy 0, .int) rfl).2))) hW 29 (n := iI 6) (N' := 6) (a0 := (6, .inl (iA (fun _ => 0)))) (fun _ => rfl) (by decide) (by decide) (Nat.le_of_ble_eq_true rfl) (Nat.le_of_ble_eq_true rfl) (Nat.le_of_ble_eq_true rfl) dX12_init_209 (fun q1 H hW hne => ?_)
  refine g_putF (ref := RX12) (T := TX12) (N := 37) (ci := 13) (ty := tyX12 29) hx hb hts hin tyX12 tyX12_ok nmX12 hown hK hW 0 (a := a) (fs := cV ix25 29) rfl rfl 29 (by decide) (hts _ lM_taken) (fun x h => h) rfl hnm rfl (by decide +kernel) rfl rfl (by simp [cV]) dX12_init_211 (fun H locs hW => ?_)
  rw [cW_step (n := 29) (f := 29) (by intro i h1 h2; omega) (by decide) (by decide) (by decide) (by decide) (e := .inl (cy 0, (6, .inl (iA (fun _ => 0))))) rfl q1] at hW
  generalize nx ix25 (29 + 100) q1 = ix26 at hW
  refine lv_aload_n hx hb dX12_init_214 rfl (lv_at hl 0 rfl) ?_
  refine xi_bipush hx hb dX12_init_215 (by decide) ?_
  refine g_newa (atype := .int) (ci := 0) (ty := .int) hx hb (hts _ aM_int) rfl hK rfl (fun cA h => Option.some.inj (h.symm.trans ((hK.1.2 0 (cy 0, .int) rfl).2))) hW 30 (n := iI 6) (N' := 6) (a0 := (6, .inl (iA (fun _ => 0)))) (fun _ => rfl) (by decide) (by decide) (Nat.le_of_ble_eq_true rfl) (Nat.le_of_ble_eq_true rfl) (Nat.le_of_ble_eq_true rfl) dX12_init_217 (fun q1 H hW hne => ?_)
  refine g_putF (ref := RX12) (T := TX12) (N := 37) (ci := 13) (ty := tyX12 30) hx hb hts hin tyX12 tyX12_ok nmX12 hown hK hW 0 (a := a) (fs := cV ix26 30) rfl rfl 30 (by decide) (hts _ lM_most) (fun x h => h) rfl hnm rfl (by decide +kernel) rfl rfl (by simp [cV]) dX12_init_219 (fun H locs hW => ?_)
  rw [cW_step (n := 30) (f := 30) (by intro i h1 h2; omega) (by decide) (by decide) (by decide) (by decide) (e := .inl (cy 0, (6, .inl (iA (fun _ => 0))))) rfl q1] at hW
  generalize nx ix26 (30 + 100) q1 = ix27 at hW
  refine lv_aload_n hx hb dX12_init_222 rfl (lv_at hl 0 rfl) ?_
  refine xi_ldc hx hb 150000 (by decide) hown (hts _ kM_93) dX12_init_223 ?_
  refine g_newa (atype := .long) (ci := 1) (ty := .long) hx hb (hts _ aM_long) rfl hK rfl (fun cA h => Option.some.inj (h.symm.trans ((hK.1.2 1 (cy 1, .long) rfl).2))) hW 32 (n := iI 150000) (N' := 150000) (a0 := (150000, .inr (.inl (lA (fun _ => 0))))) (fun _ => rfl) (by decide) (by decide) (Nat.le_of_ble_eq_true rfl) (Nat.le_of_ble_eq_true rfl) (Nat.le_of_ble_eq_true rfl) dX12_init_225 (fun q1 H hW hne => ?_)
  refine g_putF (ref := RX12) (T := TX12) (N := 37) (ci := 13) (ty := tyX12 32) hx hb hts hin tyX12 tyX12_ok nmX12 hown hK hW 0 (a := a) (fs := cV ix27 31) rfl rfl 32 (by decide) (hts _ lM_entry) (fun x h => h) rfl hnm rfl (by decide +kernel) rfl rfl (by simp [cV]) dX12_init_227 (fun H locs hW => ?_)
  rw [cW_step (n := 31) (f := 32) (by intro i h1 h2; rcases (show i = 31 by omega) with rfl <;> rfl) (by decide) (by decide) (by decide) (by decide) (e := .inl (cy 1, (150000, .inr (.inl (lA (fun _ => 0)))))) rfl q1] at hW
  generalize nx ix27 (32 + 100) q1 = ix28 at hW
  refine lv_aload_n hx hb dX12_init_230 rfl (lv_at hl 0 rfl) ?_
  refine xi_bipush hx hb dX12_init_231 (by decide) ?_
  refine g_newa (atype := .boolean) (ci := 2) (ty := .boolean) hx hb (hts _ aM_boolean) rfl hK rfl (fun cA h => Option.some.inj (h.symm.trans ((hK.1.2 2 (cy 2, .boolean) rfl).2))) hW 33 (n := iI 60) (N' := 60) (a0 := (60, .inl (iA (fun _ => 0)))) (fun _ => rfl) (by decide) (by decide) (Nat.le_of_ble_eq_true rfl) (Nat.le_of_ble_eq_true rfl) (Nat.le_of_ble_eq_true rfl) dX12_init_233 (fun q1 H hW hne => ?_)
  refine g_putF (ref := RX12) (T := TX12) (N := 37) (ci := 13) (ty := tyX12 33) hx hb hts hin tyX12 tyX12_ok nmX12 hown hK hW 0 (a := a) (fs := cV ix28 33) rfl rfl 33 (by decide) (hts _ lM_isIn) (fun x h => h) rfl hnm rfl (by decide +kernel) rfl rfl (by simp [cV]) dX12_init_235 (fun H locs hW => ?_)
  rw [cW_step (n := 33) (f := 33) (by intro i h1 h2; omega) (by decide) (by decide) (by decide) (by decide) (e := .inl (cy 2, (60, .inl (iA (fun _ => 0))))) rfl q1] at hW
  generalize nx ix28 (33 + 100) q1 = ix29 at hW
  refine lv_aload_n hx hb dX12_init_238 rfl (lv_at hl 0 rfl) ?_
  refine xi_bipush hx hb dX12_init_239 (by decide) ?_
  refine g_newa (atype := .long) (ci := 1) (ty := .long) hx hb (hts _ aM_long) rfl hK rfl (fun cA h => Option.some.inj (h.symm.trans ((hK.1.2 1 (cy 1, .long) rfl).2))) hW 34 (n := iI 21) (N' := 21) (a0 := (21, .inr (.inl (lA (fun _ => 0))))) (fun _ => rfl) (by decide) (by decide) (Nat.le_of_ble_eq_true rfl) (Nat.le_of_ble_eq_true rfl) (Nat.le_of_ble_eq_true rfl) dX12_init_241 (fun q1 H hW hne => ?_)
  refine g_putF (ref := RX12) (T := TX12) (N := 37) (ci := 13) (ty := tyX12 34) hx hb hts hin tyX12 tyX12_ok nmX12 hown hK hW 0 (a := a) (fs := cV ix29 34) rfl rfl 34 (by decide) (hts _ lM_more) (fun x h => h) rfl hnm rfl (by decide +kernel) rfl rfl (by simp [cV]) dX12_init_243 (fun H locs hW => ?_)
  rw [cW_step (n := 34) (f := 34) (by intro i h1 h2; omega) (by decide) (by decide) (by decide) (by decide) (e := .inl (cy 1, (21, .inr (.inl (lA (fun _ => 0)))))) rfl q1] at hW
  generalize nx ix29 (34 + 100) q1 = ix30 at hW
  refine lv_aload_n hx hb dX12_init_246 rfl (lv_at hl 0 rfl) ?_
  refine xi_bipush hx hb dX12_init_247 (by decide) ?_
  refine g_newa (atype := .long) (ci := 1) (ty := .long) hx hb (hts _ aM_long) rfl hK rfl (fun cA h => Option.some.inj (h.symm.trans ((hK.1.2 1 (cy 1, .long) rfl).2))) hW 35 (n := iI 108) (N' := 108) (a0 := (108, .inr (.inl (lA (fun _ => 0))))) (fun _ => rfl) (by decide) (by decide) (Nat.le_of_ble_eq_true rfl) (Nat.le_of_ble_eq_true rfl) (Nat.le_of_ble_eq_true rfl) dX12_init_249 (fun q1 H hW hne => ?_)
  refine g_putF (ref := RX12) (T := TX12) (N := 37) (ci := 13) (ty := tyX12 35) hx hb hts hin tyX12 tyX12_ok nmX12 hown hK hW 0 (a := a) (fs := cV ix30 35) rfl rfl 35 (by decide) (hts _ lM_morePaid) (fun x h => h) rfl hnm rfl (by decide +kernel) rfl rfl (by simp [cV]) dX12_init_251 (fun H locs hW => ?_)
  rw [cW_step (n := 35) (f := 35) (by intro i h1 h2; omega) (by decide) (by decide) (by decide) (by decide) (e := .inl (cy 1, (108, .inr (.inl (lA (fun _ => 0)))))) rfl q1] at hW
  generalize nx ix30 (35 + 100) q1 = ix31 at hW
  rw [cW_all] at hW
  obtain ⟨ix, hix, hW2⟩ : ∃ ix : Nat → Nat, ix 100 = a ∧ gW D B0 s_ (mW cy ix Zs Zx G) H locs := ⟨nx ix31 100 a, nx_s _ _ _, hW⟩
  clear hW
  subst hix
  have hW := hW2
  refine xi_iconst hx hb dX12_init_254 ?_
  refine lv_istore_n (lv' := [(1, .int (iI (0))), (0, .ref (ix 100))]) hx hb dX12_init_255 rfl hl (by decide) rfl (fun ls hl => ?_)
  refine lp_w2 (Wg := fun (H : Heap) (locs : List Loc) (ls : Array Slot) => W p_ l e_ { frames := 1, cells := 31, slots := 155102, locals := 12 } s_ m_ ([.ref (ix 100)] : List Value).toArray be_ me_ co_ H locs 31 155102 (MQ be_ (gQ D B0 (fun (r : Option Value) (g : gF) => r = none ∧ ∃ ix1 : Nat → Nat, ix1 100 = ix 100 ∧ g = mW cy ix1 sIni Zx G)) ([.ref (ix 100)] : List Value).toArray s_ 31 155102 (fun q : Nat => B0 ≤ q)) (F0 m_ 256 ls [])) (fun (k : Int) (Y : ST) (H : Heap) (locs : List Loc) (ls : Array Slot) => ((0 ≤ k ∧ k ≤ 108) ∧ Y = sIni1 k.toNat) ∧ gW D B0 s_ (mW cy ix Y Zx G) H locs ∧ lv_has ls 2 [(1, .int (iI (k))), (0, .ref (ix 100))]) (fun (k : Int) (Y : ST) => (108 - k).toNat) (fun k Y H locs ls hI ih_lp_1 => ?_) (0) (Zs) _ _ _ ⟨⟨by decide, rfl⟩, hW, lv_sub hl [0, 1] rfl⟩
  obtain ⟨hI_lp_1, hW, hl⟩ := hI
  obtain ⟨hk, hY⟩ := hI_lp_1
  refine lv_iload_n hx hb dX12_init_256 rfl (lv_at hl 0 rfl) ?_
  refine xi_bipush hx hb dX12_init_257 (by decide) ?_
  refine xi_icmp_ge (tgt := 275) hx hb ⟨by omega, by omega⟩ ⟨by omega, by omega⟩ dX12_init_259 (by decide) (fun c_2 => ?_) (fun c_2 => ?_)
  · have hY : Y = sIni2 0 := by rw [hY, show k.toNat = 108 by omega]; rfl
    rw [hY] at hW
    refine xi_iconst hx hb dX12_init_275 ?_
    refine lv_istore_n (lv' := [(1, .int (iI (0))), (0, .ref (ix 100))]) hx hb dX12_init_276 rfl hl (by decide) rfl (fun ls hl => ?_)
    refine lp_w2 (Wg := fun (H : Heap) (locs : List Loc) (ls : Array Slot) => W p_ l e_ { frames := 1, cells := 31, slots := 155102, locals := 12 } s_ m_ ([.ref (ix 100)] : List Value).toArray be_ me_ co_ H locs 31 155102 (MQ be_ (gQ D B0 (fun (r : Option Value) (g : gF) => r = none ∧ ∃ ix1 : Nat → Nat, ix1 100 = ix 100 ∧ g = mW cy ix1 sIni Zx G)) ([.ref (ix 100)] : List Value).toArray s_ 31 155102 (fun q : Nat => B0 ≤ q)) (F0 m_ 277 ls [])) (fun (k : Int) (Y : ST) (H : Heap) (locs : List Loc) (ls : Array Slot) => ((0 ≤ k ∧ k ≤ 600) ∧ Y = sIni2 k.toNat) ∧ gW D B0 s_ (mW cy ix Y Zx G) H locs ∧ lv_has ls 2 [(1, .int (iI (k))), (0, .ref (ix 100))]) (fun (k : Int) (Y : ST) => (600 - k).toNat) (fun k Y H locs ls hI ih_lp_3 => ?_) (0) ((sIni2 0)) _ _ _ ⟨⟨by decide, rfl⟩, hW, lv_sub hl [0, 1] rfl⟩
    obtain ⟨hI_lp_3, hW, hl⟩ := hI
    obtain ⟨hk, hY⟩ := hI_lp_3
    refine lv_iload_n hx hb dX12_init_277 rfl (lv_at hl 0 rfl) ?_
    refine xi_sipush hx hb dX12_init_278 (by decide) ?_
    refine xi_icmp_ge (tgt := 297) hx hb ⟨by omega, by omega⟩ ⟨by omega, by omega⟩ dX12_init_281 (by decide) (fun c_4 => ?_) (fun c_4 => ?_)
    · have hY : Y = sIni := by rw [hY, show k.toNat = 600 by omega]; rfl
      rw [hY] at hW
      exact g_vret hx hb hr hW ⟨rfl, ix, rfl, rfl⟩ dX12_init_297 hlk
    · refine lv_aload_n hx hb dX12_init_284 rfl (lv_at hl 1 rfl) ?_
      refine mr_get K hK hW hin 25 (by decide) lM_message (v := .ref (ix 125)) rfl dX12_init_285 ?_
      refine lv_iload_n hx hb dX12_init_288 rfl (lv_at hl 0 rfl) ?_
      refine xi_iconst hx hb dX12_init_289 ?_
      refine mr_iast K hK hW 25 (by decide) rfl (n := 600) rfl rfl ⟨by omega, by omega⟩ dX12_init_290 (fun H locs hW => ?_)
      refine xi_iinc (lv' := [(1, .int (iI (k + 1))), (0, .ref (ix 100))]) hx hb dX12_init_291 hl (k := 0) rfl (by decide) rfl (fun ls hl => ?_)
      refine lv_goto (tgt := 277) hx hb dX12_init_294 (by decide) ?_
      exact ih_lp_3 (k + 1) ((pI Y 25 (k) ((-1)))) _ _ _ (by first | omega | (dsimp only; omega)) ⟨⟨⟨by omega, by omega⟩, by rw [show (k + 1).toNat = k.toNat + 1 by omega, show sIni2 (k.toNat + 1) = pI (sIni2 k.toNat) 25 ((k.toNat : Nat) : Int) (-1) from rfl, show ((k.toNat : Nat) : Int) = k by omega, ← hY]⟩, hW, lv_sub hl [0, 1] rfl⟩
  · refine lv_aload_n hx hb dX12_init_262 rfl (lv_at hl 1 rfl) ?_
    refine mr_get K hK hW hin 3 (by decide) lM_limit (v := .ref (ix 103)) rfl dX12_init_263 ?_
    refine lv_iload_n hx hb dX12_init_266 rfl (lv_at hl 0 rfl) ?_
    refine xi_iconst hx hb dX12_init_267 ?_
    refine mr_iast K hK hW 3 (by decide) rfl (n := 108) rfl rfl ⟨by omega, by omega⟩ dX12_init_268 (fun H locs hW => ?_)
    refine xi_iinc (lv' := [(1, .int (iI (k + 1))), (0, .ref (ix 100))]) hx hb dX12_init_269 hl (k := 0) rfl (by decide) rfl (fun ls hl => ?_)
    refine lv_goto (tgt := 256) hx hb dX12_init_272 (by decide) ?_
    exact ih_lp_1 (k + 1) ((pI Y 3 (k) ((-1)))) _ _ _ (by first | omega | (dsimp only; omega)) ⟨⟨⟨by omega, by omega⟩, by rw [show (k + 1).toNat = k.toNat + 1 by omega, show sIni1 (k.toNat + 1) = pI (sIni1 k.toNat) 3 ((k.toNat : Nat) : Int) (-1) from rfl, show ((k.toNat : Nat) : Int) = k by omega, ← hY]⟩, hW, lv_sub hl [0, 1] rfl⟩
