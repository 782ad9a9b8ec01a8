/-! what the class holds of a set is what the reference sums of it; a queue's first and next one -/
theorem fiF_none {p : Int → Bool} : ∀ {n : Nat}, fiF p n = -1 ↔ ∀ k : Int, 0 ≤ k → k < n → p k = false
  | 0 => ⟨fun _ k h1 h2 => (by omega), fun _ => rfl⟩
  | n + 1 => by
    have ih := fiF_none (p := p) (n := n)
    constructor
    · intro h k h0 h1
      unfold fiF at h
      by_cases e : fiF p n = -1
      · rw [if_pos e] at h
        by_cases hk : k = n
        · rw [hk]
          cases hp : p n with
          | false => rfl
          | true => rw [if_pos hp] at h; omega
        · exact ih.mp e k h0 (by omega)
      · rw [if_neg e] at h
        exact absurd h e
    · intro h
      have e := ih.mpr (fun k h0 h1 => h k h0 (by omega))
      unfold fiF
      rw [if_pos e, if_neg (by rw [h n (by omega) (by omega)]; decide)]
theorem kLow_sh (S : ST) (a : Int → Int64) (b c : Int) : kLow S (3 * b + c) (a (3 * b + c)) = shX S a b c := by
  unfold kLow shX
  rw [ofInt_neg64]
theorem kPa_pa {S : ST} (hw : wf S) (q : Int → Int64) (b u c : Int) : kPa S q b u c = paX S q b u c := by
  unfold kPa kPas paX
  have w3 := wf_3 hw (3 * (6 * b + u) + c)
  have e : decide (Int64.ofInt (S.1 3 (3 * (6 * b + u) + c)) = -1) = decide (S.1 3 (3 * (6 * b + u) + c) = -1) := by
    apply decide_eq_decide.mpr
    constructor
    · intro h
      have h2 := congrArg Int64.toInt h
      rw [Int64.toInt_ofInt_of_le (by omega) (by omega)] at h2
      exact h2
    · intro h; rw [h]; rfl
  rw [e]
theorem alB_ff {p : Int → Bool} {n : Nat} : alB (fun b => !p b) n = decide (fiF p n = -1) := by
  rw [Bool.eq_iff_iff, alB_iff, decide_eq_true_eq, fiF_none]
  constructor
  · intro h k h0 h1
    have := h k h0 h1
    simpa using this
  · intro h k h0 h1
    simp [h k h0 h1]
theorem alB_and {p q : Int → Bool} {n : Nat} : alB (fun b => p b && q b) n = (alB p n && alB q n) := by
  rw [Bool.eq_iff_iff, Bool.and_eq_true, alB_iff, alB_iff, alB_iff]
  constructor
  · intro h
    exact ⟨fun k h0 h1 => (Bool.and_eq_true _ _ ▸ h k h0 h1).1, fun k h0 h1 => (Bool.and_eq_true _ _ ▸ h k h0 h1).2⟩
  · intro h k h0 h1
    rw [Bool.and_eq_true]
    exact ⟨h.1 k h0 h1, h.2 k h0 h1⟩
theorem kFit_fi {S : ST} (hw : wf S) (a q : Int → Int64) (c : Int) : kFit S a q c = fiX S a q c := by
  unfold kFit fiX kLo
  rw [alB_and]
  congr 1
  · rw [alB_ff]
    have : (fun b => kLow S (3 * b + c) (a (3 * b + c))) = fun b => shX S a b c := funext fun b => kLow_sh S a b c
    rw [this]
  · exact alB_congr (fun b _ _ => alB_congr (fun u _ _ => by rw [kPa_pa hw]))
theorem suL_at {f g : Int → Int64} {k : Int} {d : Int64} (hd : g k = f k + d) : ∀ {n : Nat}, 0 ≤ k → k < n → (∀ j : Int, j ≠ k → g j = f j) → suL g n = suL f n + d
  | 0, h1, h2, _ => by omega
  | n + 1, h1, h2, h => by
    rw [suL, suL]
    by_cases hk : k = n
    · subst hk
      rw [suL_congr (f := g) (g := f) (n := n) (fun j a b => h j (by omega)), hd, Int64.add_assoc]
    · rw [suL_at hd h1 (by omega) h, h n (by omega), Int64.add_assoc, Int64.add_comm d, ← Int64.add_assoc]
theorem dS_put {S : ST} {I : Int → Bool} {k x : Int} {n : Nat} (h0 : 0 ≤ k) (h1 : k < n) (h : I k = false) : dS S (iup I k true) n x = dS S I n x + dK S k x := by
  unfold dS
  refine suL_at (k := k) ?_ h0 h1 (fun j hj => by rw [iup_n _ _ hj])
  rw [iup_s, if_pos rfl, h, if_neg (by decide), Int64.zero_add]
theorem pS_put {S : ST} {I : Int → Bool} {k x : Int} {n : Nat} (h0 : 0 ≤ k) (h1 : k < n) (h : I k = false) : pS S (iup I k true) n x = pS S I n x + pK S k x := by
  unfold pS
  refine suL_at (k := k) ?_ h0 h1 (fun j hj => by rw [iup_n _ _ hj])
  rw [iup_s, if_pos rfl, h, if_neg (by decide), Int64.zero_add]
theorem dS_drop {S : ST} {I : Int → Bool} {k x : Int} {n : Nat} (h0 : 0 ≤ k) (h1 : k < n) (h : I k = true) : dS S (iup I k false) n x = dS S I n x + -dK S k x := by
  unfold dS
  refine suL_at (k := k) ?_ h0 h1 (fun j hj => by rw [iup_n _ _ hj])
  rw [iup_s, if_pos h, if_neg (by decide), Int64.add_right_neg]
theorem pS_drop {S : ST} {I : Int → Bool} {k x : Int} {n : Nat} (h0 : 0 ≤ k) (h1 : k < n) (h : I k = true) : pS S (iup I k false) n x = pS S I n x + -pK S k x := by
  unfold pS
  refine suL_at (k := k) ?_ h0 h1 (fun j hj => by rw [iup_n _ _ hj])
  rw [iup_s, if_pos h, if_neg (by decide), Int64.add_right_neg]
theorem kAdd2 (c : Int → Int64) (i j x : Int) (u v : Int64) : kAdd (kAdd c i u) j v x = c x + ((if x = i then u else 0) + (if x = j then v else 0)) := by
  unfold kAdd
  by_cases hj : x = j
  · subst hj
    by_cases hi : x = i
    · subst hi
      simp [lup, Int64.add_assoc]
    · simp [lup, hi]
  · by_cases hi : x = i
    · subst hi
      simp [lup, hj]
    · simp [lup, hi, hj]
theorem kC1_put (S : ST) (k x : Int) (c : Int → Int64) : kC1 S k (Int64.ofInt (S.1 12 k)) c x = c x + dK S k x := kAdd2 _ _ _ _ _ _
theorem kQ1_put (S : ST) (k x : Int) (c : Int → Int64) : kQ1 S k (Int64.ofInt (S.1 12 k)) c x = c x + pK S k x := kAdd2 _ _ _ _ _ _
theorem neg_add64 (a b : Int64) : -(a + b) = -a + -b := by rw [Int64.neg_add, Int64.sub_eq_add_neg]
theorem kC1_drop (S : ST) (k x : Int) (c : Int → Int64) : kC1 S k (Int64.ofInt (-(S.1 12 k))) c x = c x + -dK S k x := by
  unfold kC1 dK
  rw [kAdd2, neg_add64, ofInt_neg64]
  congr 2
  · split <;> simp
  · split <;> simp
theorem kQ1_drop (S : ST) (k x : Int) (c : Int → Int64) : kQ1 S k (Int64.ofInt (-(S.1 12 k))) c x = c x + -pK S k x := by
  unfold kQ1 pK
  rw [kAdd2, neg_add64, ofInt_neg64]
  congr 2
  · split <;> simp
  · split <;> simp
/-- the scratch of the class holds a set's sums -/
def bInv (S : ST) (I : Int → Bool) (a q : Int → Int64) : Prop := (∀ x : Int, 0 ≤ x → x < 21 → a x = dS S I (nP S) x) ∧ ∀ x : Int, 0 ≤ x → x < 108 → q x = pS S I (nP S) x
theorem suL_0 {f : Int → Int64} : ∀ {n : Nat}, (∀ j : Int, 0 ≤ j → j < n → f j = 0) → suL f n = 0
  | 0, _ => rfl
  | n + 1, h => by rw [suL, suL_0 (fun j a b => h j a (by omega)), h n (by omega) (by omega)]; rfl
theorem bInv_0 {S : ST} (hw : wf S) (I : Int → Bool) (a q : Int → Int64) : bInv S (kCl I) (flG a 0 21) (flG q 0 108) := by
  have h := nP_le hw
  have hI : ∀ j : Int, 0 ≤ j → j < nP S → kCl I j = false := fun j j0 j1 => by unfold kCl; rw [if_pos (by omega)]
  refine ⟨fun x x0 x1 => ?_, fun x x0 x1 => ?_⟩
  · unfold flG dS
    rw [if_pos ⟨x0, x1⟩, suL_0 (fun j j0 j1 => by rw [hI j j0 j1]; rfl)]
  · unfold flG pS
    rw [if_pos ⟨x0, x1⟩, suL_0 (fun j j0 j1 => by rw [hI j j0 j1]; rfl)]
theorem bInv_put {S : ST} {I : Int → Bool} {a q : Int → Int64} {k : Int} (h : bInv S I a q) (h0 : 0 ≤ k) (h1 : k < nP S) (hI : I k = false) : bInv S (iup I k true) (kC1 S k (Int64.ofInt (S.1 12 k)) a) (kQ1 S k (Int64.ofInt (S.1 12 k)) q) :=
  ⟨fun x x0 x1 => by rw [kC1_put, dS_put h0 h1 hI, h.1 x x0 x1], fun x x0 x1 => by rw [kQ1_put, pS_put h0 h1 hI, h.2 x x0 x1]⟩
theorem bInv_drop {S : ST} {I : Int → Bool} {a q : Int → Int64} {k : Int} (h : bInv S I a q) (h0 : 0 ≤ k) (h1 : k < nP S) (hI : I k = true) : bInv S (iup I k false) (kC1 S k (Int64.ofInt (-(S.1 12 k))) a) (kQ1 S k (Int64.ofInt (-(S.1 12 k))) q) :=
  ⟨fun x x0 x1 => by rw [kC1_drop, dS_drop h0 h1 hI, h.1 x x0 x1], fun x x0 x1 => by rw [kQ1_drop, pS_drop h0 h1 hI, h.2 x x0 x1]⟩
theorem bInv_fi {S : ST} {I : Int → Bool} {a q : Int → Int64} {c : Int} (hw : wf S) (h : bInv S I a q) (hc : 0 ≤ c ∧ c ≤ 2) : kFit S a q c = fit S I c := by
  rw [kFit_fi hw]
  exact fiX_congr hc h.1 h.2
/-- a currency of which the set has none -/
theorem fit_none {S : ST} {I : Int → Bool} {c : Int} (hw : wf S) (hc : 0 ≤ c ∧ c ≤ 2) (h : ∀ j : Int, 0 ≤ j → j < nP S → I j = true → S.1 11 j ≠ c) : fit S I c = true := by
  have eD : ∀ b : Int, dS S I (nP S) (3 * b + c) = 0 := by
    intro b
    unfold dS
    refine suL_0 (fun j j0 j1 => ?_)
    by_cases hj : I j = true
    · have h1 := h j j0 j1 hj
      have w11 := wf_11 hw j
      rw [if_pos hj]
      unfold dK
      rw [if_neg (by omega), if_neg (by omega)]; rfl
    · rw [if_neg hj]
  have eP : ∀ b : Int, pS S I (nP S) (3 * b + c) = 0 := by
    intro b
    unfold pS
    refine suL_0 (fun j j0 j1 => ?_)
    by_cases hj : I j = true
    · have h1 := h j j0 j1 hj
      have w11 := wf_11 hw j
      rw [if_pos hj]
      unfold pK
      rw [if_neg (by omega), if_neg (by omega)]; rfl
    · rw [if_neg hj]
  unfold fit fiX
  refine (alB_iff _ _).mpr (fun b _ _ => ?_)
  rw [Bool.and_eq_true]
  refine ⟨?_, (alB_iff _ _).mpr (fun u _ _ => ?_)⟩
  · unfold shX
    rw [eD]; rfl
  · unfold paX
    rw [eP]; rfl
/-! the queue -/
def qC (S : ST) (b c u j : Int) : Prop := S.1 18 j = 2 ∧ S.1 11 j = c ∧ S.1 9 j = b ∧ (u = -1 ∨ kBeh S j u = true)
theorem kBeh_iff {S : ST} {j x : Int} : kBeh S j x = true ↔ S.1 14 j < S.1 14 x ∨ (S.1 14 j = S.1 14 x ∧ x < j) := by simp [kBeh]
theorem kNx_min (S : ST) (b c u : Int) : ∀ n : Nat, (kNx S b c u n = -1 ∧ ∀ j : Int, 0 ≤ j → j < n → ¬ qC S b c u j) ∨ (0 ≤ kNx S b c u n ∧ kNx S b c u n < n ∧ qC S b c u (kNx S b c u n) ∧ ∀ j : Int, 0 ≤ j → j < n → qC S b c u j → j = kNx S b c u n ∨ kBeh S j (kNx S b c u n) = true)
  | 0 => Or.inl ⟨rfl, fun j h0 h1 => (by omega)⟩
  | n + 1 => by
    have ih := kNx_min S b c u n
    rw [kNx_s]
    generalize kNx S b c u n = x at ih ⊢
    unfold kNxB
    split
    · rename_i h
      simp only [Bool.and_eq_true, Bool.or_eq_true, decide_eq_true_eq] at h
      obtain ⟨⟨⟨⟨h1, h2⟩, h3⟩, h4⟩, h5⟩ := h
      refine Or.inr ⟨by omega, by omega, ⟨h1, h2, h3, h4⟩, fun j j0 j1 hj => ?_⟩
      by_cases e : j = n
      · exact Or.inl e
      · rcases ih with ⟨i1, i2⟩ | ⟨i1, i2, i3, i4⟩
        · exact absurd hj (i2 j j0 (by omega))
        · have h6 : kBeh S x n = true := by
            rcases h5 with h5 | h5
            · omega
            · exact h5
          rcases i4 j j0 (by omega) hj with h7 | h7
          · rw [h7]; exact Or.inr h6
          · refine Or.inr ?_
            rw [kBeh_iff] at h6 h7 ⊢
            omega
    · rename_i h
      have h' : ¬ (((decide (S.1 18 (n : Int) = 2) && decide (S.1 11 (n : Int) = c)) && decide (S.1 9 (n : Int) = b) && (decide (u = -1) || kBeh S n u) && (decide (x = -1) || kBeh S x n)) = true) := h
      simp only [Bool.and_eq_true, Bool.or_eq_true, decide_eq_true_eq] at h'
      rcases ih with ⟨i1, i2⟩ | ⟨i1, i2, i3, i4⟩
      · refine Or.inl ⟨i1, fun j j0 j1 hj => ?_⟩
        by_cases e : j = n
        · rw [e] at hj
          exact h' ⟨⟨⟨⟨hj.1, hj.2.1⟩, hj.2.2.1⟩, hj.2.2.2⟩, Or.inl i1⟩
        · exact i2 j j0 (by omega) hj
      · refine Or.inr ⟨i1, by omega, i3, fun j j0 j1 hj => ?_⟩
        by_cases e : j = n
        · rw [e] at hj
          have h6 : ¬ kBeh S x n = true := fun h6 => h' ⟨⟨⟨⟨hj.1, hj.2.1⟩, hj.2.2.1⟩, hj.2.2.2⟩, Or.inr h6⟩
          rw [kBeh_iff] at h6
          rw [e, kBeh_iff]
          omega
        · exact i4 j j0 (by omega) hj
theorem qR_iff {S : ST} {b c h k : Int} : ∀ {n : Nat}, k ∈ qR S b c h n ↔ 0 ≤ k ∧ k < n ∧ isQ S b c h k = true
  | 0 => ⟨fun hk => by simp [qR] at hk, fun hk => (by omega)⟩
  | n + 1 => by
    constructor
    · exact qR_mem
    · rintro ⟨h0, h1, h2⟩
      rw [qR_s, List.mem_append]
      by_cases e : k = n
      · rw [← e, if_pos h2]
        exact Or.inr (List.mem_singleton.mpr rfl)
      · exact Or.inl (qR_iff.mpr ⟨h0, by omega, h2⟩)
theorem qR_pw (S : ST) (b c h : Int) : ∀ n : Nat, (qR S b c h n).Pairwise (fun x y => kBeh S y x = true)
  | 0 => List.Pairwise.nil
  | n + 1 => by
    rw [qR_s, List.pairwise_append]
    refine ⟨qR_pw S b c h n, by split <;> simp, fun x hx y hy => ?_⟩
    have h1 := qR_mem hx
    split at hy
    · rename_i h2
      rw [List.mem_singleton] at hy
      subst hy
      have h3 := isQ_iff.mp h1.2.2
      have h4 := isQ_iff.mp h2
      rw [kBeh_iff]
      omega
    · simp at hy
theorem qL_iff {S : ST} {b c k : Int} (hw : wf S) : k ∈ qL S b c ↔ 0 ≤ k ∧ k < nP S ∧ qC S b c (-1) k := by
  unfold qL
  rw [List.mem_append, List.mem_append, qR_iff, qR_iff, qR_iff, isQ_iff, isQ_iff, isQ_iff]
  have w14 := wf_14 hw k
  unfold nP qC
  constructor
  · intro h
    have h2 : (0 ≤ k ∧ k < (S.1 8 0).toNat) ∧ S.1 18 k = 2 ∧ S.1 9 k = b ∧ S.1 11 k = c := by
      rcases h with h | h | h <;> exact ⟨⟨h.1, h.2.1⟩, h.2.2.1, h.2.2.2.1, h.2.2.2.2.1⟩
    exact ⟨h2.1.1, h2.1.2, h2.2.1, h2.2.2.2, h2.2.2.1, Or.inl rfl⟩
  · rintro ⟨h0, h1, h2, h3, h4, _⟩
    rcases (show S.1 14 k = 2 ∨ S.1 14 k = 1 ∨ S.1 14 k = 0 by omega) with h | h | h
    · exact Or.inl ⟨h0, h1, h2, h4, h3, h⟩
    · exact Or.inr (Or.inl ⟨h0, h1, h2, h4, h3, h⟩)
    · exact Or.inr (Or.inr ⟨h0, h1, h2, h4, h3, h⟩)
theorem qL_pw (S : ST) (b c : Int) : (qL S b c).Pairwise (fun x y => kBeh S y x = true) := by
  have key : ∀ h h' : Int, h' < h → ∀ n : Nat, ∀ x ∈ qR S b c h n, ∀ y ∈ qR S b c h' n, kBeh S y x = true := by
    intro h h' hh n x hx y hy
    have h3 := isQ_iff.mp (qR_mem hx).2.2
    have h4 := isQ_iff.mp (qR_mem hy).2.2
    rw [kBeh_iff]
    omega
  unfold qL
  rw [List.pairwise_append, List.pairwise_append]
  refine ⟨qR_pw _ _ _ _ _, ⟨qR_pw _ _ _ _ _, qR_pw _ _ _ _ _, key 1 0 (by decide) _⟩, fun x hx y hy => ?_⟩
  rw [List.mem_append] at hy
  rcases hy with hy | hy
  · exact key 2 1 (by decide) _ x hx y hy
  · exact key 2 0 (by decide) _ x hx y hy
theorem qL_next {S : ST} {b c : Int} (hw : wf S) (L : List Int) (u : Int) (hm : ∀ k : Int, k ∈ L ↔ 0 ≤ k ∧ k < nP S ∧ qC S b c u k) (hp : L.Pairwise (fun x y => kBeh S y x = true)) : kNx S b c u (nP S) = L.headD (-1) := by
  have h := kNx_min S b c u (nP S)
  cases L with
  | nil =>
    rcases h with ⟨h1, _⟩ | ⟨h1, h2, h3, _⟩
    · exact h1
    · have := (hm _).mpr ⟨h1, h2, h3⟩
      simp at this
  | cons x L =>
    have hx := (hm x).mp (List.mem_cons_self ..)
    rw [List.pairwise_cons] at hp
    rcases h with ⟨_, h2⟩ | ⟨h1, h2, h3, h4⟩
    · exact absurd hx.2.2 (h2 x hx.1 hx.2.1)
    · rcases h4 x hx.1 hx.2.1 hx.2.2 with e | e
      · exact e.symm
      · have hk := (hm _).mpr ⟨h1, h2, h3⟩
        rcases List.mem_cons.mp hk with e2 | e2
        · exact e2
        · have h5 := hp.1 _ e2
          rw [kBeh_iff] at e h5
          omega
theorem kIt_q {S : ST} {b c : Int} (hw : wf S) : ∀ n : Nat, kIt S b c n = (qL S b c).getD n (-1)
  | 0 => by
    show kNx S b c (-1) (nP S) = _
    rw [qL_next hw (qL S b c) (-1) (fun k => qL_iff hw) (qL_pw S b c)]
    cases qL S b c <;> rfl
  | n + 1 => by
    have ih := kIt_q (b := b) (c := c) hw n
    have hpw := qL_pw S b c
    unfold kIt
    rw [ih]
    by_cases hn : n < (qL S b c).length
    · have e : (qL S b c).getD n (-1) = (qL S b c)[n] := by rw [List.getD_eq_getElem?_getD, List.getElem?_eq_getElem hn]; rfl
      have hmem : (qL S b c)[n] ∈ qL S b c := List.getElem_mem hn
      have hq := (qL_iff hw).mp hmem
      rw [e, if_neg (by omega)]
      have hsp : qL S b c = (qL S b c).take n ++ (qL S b c)[n] :: (qL S b c).drop (n + 1) := by
        rw [← List.drop_eq_getElem_cons hn, List.take_append_drop]
      have hd : (qL S b c).getD (n + 1) (-1) = ((qL S b c).drop (n + 1)).headD (-1) := by
        rw [List.getD_eq_getElem?_getD, List.headD_eq_head?_getD, List.head?_drop]
      rw [hd]
      generalize hx : (qL S b c)[n] = x at *
      have hpw2 := hpw
      rw [hsp, List.pairwise_append, List.pairwise_cons] at hpw2
      obtain ⟨_, ⟨p1, p2⟩, p3⟩ := hpw2
      refine qL_next hw _ x (fun k => ?_) p2
      constructor
      · intro hk
        have h1 := (qL_iff hw).mp (List.mem_of_mem_drop hk)
        exact ⟨h1.1, h1.2.1, h1.2.2.1, h1.2.2.2.1, h1.2.2.2.2.1, Or.inr (p1 k hk)⟩
      · rintro ⟨h0, h1, h2, h3, h4, h5⟩
        have hk : k ∈ qL S b c := (qL_iff hw).mpr ⟨h0, h1, h2, h3, h4, Or.inl rfl⟩
        rw [hsp, List.mem_append, List.mem_cons] at hk
        have h6 : kBeh S k x = true := by
          rcases h5 with h5 | h5
          · omega
          · exact h5
        rcases hk with hk | hk | hk
        · have h7 := p3 k hk x (List.mem_cons_self ..)
          rw [kBeh_iff] at h6 h7
          omega
        · rw [hk, kBeh_iff] at h6
          omega
        · exact hk
    · have e : (qL S b c).getD n (-1) = -1 := by rw [List.getD_eq_getElem?_getD, List.getElem?_eq_none (by omega)]; rfl
      rw [e, if_pos rfl, List.getD_eq_getElem?_getD, List.getElem?_eq_none (by omega)]; rfl
theorem kNx_first {S : ST} {b c : Int} (hw : wf S) : kNx S b c (-1) (nP S) = qAt S b c 0 := kIt_q hw 0
theorem qL_len (S : ST) (b c : Int) : ∀ n : Nat, (qR S b c 2 n).length + ((qR S b c 1 n).length + (qR S b c 0 n).length) ≤ n
  | 0 => by simp [qR]
  | n + 1 => by
    have ih := qL_len S b c n
    rw [qR_s, qR_s, qR_s, List.length_append, List.length_append, List.length_append]
    have e : ∀ h : Int, (if isQ S b c h n = true then [(n : Int)] else []).length = if isQ S b c h n = true then 1 else 0 := by
      intro h; split <;> rfl
    rw [e, e, e]
    have h2 : isQ S b c 2 n = true → S.1 14 n = 2 := fun h => (isQ_iff.mp h).2.2.2
    have h1 : isQ S b c 1 n = true → S.1 14 n = 1 := fun h => (isQ_iff.mp h).2.2.2
    have h0 : isQ S b c 0 n = true → S.1 14 n = 0 := fun h => (isQ_iff.mp h).2.2.2
    split <;> split <;> split <;> first | omega | (rename_i a1 a2 a3; have := h2 a1; have := h1 a2; omega) | (rename_i a1 a2 a3; have := h2 a1; have := h0 a3; omega) | (rename_i a1 a2 a3; have := h1 a2; have := h0 a3; omega)
theorem kIt_at {S : ST} {b c p : Int} (hw : wf S) (hp : 0 ≤ p) : kIt S b c (if 60 < p then 60 else p).toNat = qAt S b c p := by
  have hl : (qL S b c).length ≤ 60 := by
    have h1 := qL_len S b c (nP S)
    have h2 := nP_le hw
    unfold nP at h1 h2
    unfold qL
    rw [List.length_append, List.length_append]
    omega
  rw [kIt_q hw]
  unfold qAt
  by_cases h : 60 < p
  · rw [if_pos h, List.getD_eq_getElem?_getD, List.getD_eq_getElem?_getD, List.getElem?_eq_none (by simpa using hl), List.getElem?_eq_none (by omega)]
  · rw [if_neg h]
