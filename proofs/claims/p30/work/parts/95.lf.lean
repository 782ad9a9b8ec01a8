/-! what the law's calls answer, as the law reads it -/
/-- the law's rows against the state: S0 is the state at its last look into the book -/
def lM (S0 S M : ST) : Prop := M.1 0 0 = S.1 8 0 ∧ M.1 0 1 = S.1 0 0 ∧ M.1 0 2 = S0.1 31 0 ∧ (∀ k : Int, 0 ≤ k → k < S.1 8 0 → M.1 1 k = 8 * S.1 9 k + S.1 10 k ∧ M.1 2 k = 64 * S.1 11 k + S.1 12 k ∧ M.1 3 k = 2 * S.1 14 k + S.1 15 k) ∧ ∀ k : Int, 0 ≤ k → k < 60 → M.1 4 k = if k < S0.1 8 0 then S0.1 18 k else 0
def actN (n : Nat) (S T M : ST) : Prop := cI (n + 1) T ∧ kI (fun c => M.2 0 c) T ∧ lM S T M ∧ evS S T ∧ T.1 31 0 ≤ S.1 31 0 + 97 ∧ T.1 0 0 ≤ (n : Int) + 1
theorem act_same {n : Nat} {S T M : ST} (hI : cI n S) (hJ : cJ n S T) (hM : lM S S M) (hd : S.1 0 0 ≤ n) (h : ac (fun c => M.2 0 c) S T) : actN n S T M := by
  obtain ⟨h1, h2, h3, h4⟩ := h
  obtain ⟨m1, m2, m3, m4, m5⟩ := hM
  refine ⟨hJ.1, h1, ⟨by rw [h3]; exact m1, by rw [h4]; exact m2, m3, fun k k0 k1 => ?_, m5⟩, h2, (cJ_31 hI hJ).2, by rw [h4]; omega⟩
  rw [h3] at k1
  have e := h2.2.2.2.1
  rw [e 9 k (by omega) k0 k1, e 10 k (by omega) k0 k1, e 11 k (by omega) k0 k1, e 12 k (by omega) k0 k1, e 14 k (by omega) k0 k1, e 15 k (by omega) k0 k1]
  exact m4 k k0 k1
theorem act_id {n : Nat} {S M : ST} (hI : cI n S) (hk : kI (fun c => M.2 0 c) S) (hM : lM S S M) (hd : S.1 0 0 ≤ n) : actN n S S M := act_same hI (cI_up hI) hM hd (ac_id hk)
theorem act_new {n : Nat} {S T M : ST} {g v1 v2 v3 : Int} (hI : cI n S) (hJ : cJ n S T) (hM : lM S S M) (hd : S.1 0 0 ≤ n) (hg : g = M.1 0 0) (hk : kI (fun c => M.2 0 c) T) (he : evS S T) (h8 : T.1 8 0 = S.1 8 0 + 1) (h0 : T.1 0 0 = S.1 0 0) (e1 : v1 = 8 * T.1 9 (S.1 8 0) + T.1 10 (S.1 8 0)) (e2 : v2 = 64 * T.1 11 (S.1 8 0) + T.1 12 (S.1 8 0)) (e3 : v3 = 2 * T.1 14 (S.1 8 0) + T.1 15 (S.1 8 0)) : actN n S T (pI (pI (pI (pI M 1 g v1) 2 g v2) 3 g v3) 0 0 (M.1 0 0 + 1)) := by
  obtain ⟨m1, m2, m3, m4, m5⟩ := hM
  have hg : g = S.1 8 0 := hg.trans m1
  subst hg
  refine ⟨hJ.1, hk, ⟨?_, ?_, ?_, fun k k0 k1 => ?_, fun k k0 k1 => ?_⟩, he, (cJ_31 hI hJ).2, by rw [h0]; omega⟩
  · rw [pI_s, h8, m1]
  · rw [pI_n _ _ _ _ (Or.inr (by decide)), pI_f _ _ _ (by decide), pI_f _ _ _ (by decide), pI_f _ _ _ (by decide), h0]; exact m2
  · rw [pI_n _ _ _ _ (Or.inr (by decide)), pI_f _ _ _ (by decide), pI_f _ _ _ (by decide), pI_f _ _ _ (by decide)]; exact m3
  · have q1 : (pI (pI (pI (pI M 1 (S.1 8 0) v1) 2 (S.1 8 0) v2) 3 (S.1 8 0) v3) 0 0 (M.1 0 0 + 1)).1 1 k = if k = S.1 8 0 then v1 else M.1 1 k := by simp [pI]
    have q2 : (pI (pI (pI (pI M 1 (S.1 8 0) v1) 2 (S.1 8 0) v2) 3 (S.1 8 0) v3) 0 0 (M.1 0 0 + 1)).1 2 k = if k = S.1 8 0 then v2 else M.1 2 k := by simp [pI]
    have q3 : (pI (pI (pI (pI M 1 (S.1 8 0) v1) 2 (S.1 8 0) v2) 3 (S.1 8 0) v3) 0 0 (M.1 0 0 + 1)).1 3 k = if k = S.1 8 0 then v3 else M.1 3 k := by simp [pI]
    rw [q1, q2, q3]
    by_cases ek : k = S.1 8 0
    · rw [if_pos ek, if_pos ek, if_pos ek, ek]
      exact ⟨e1, e2, e3⟩
    · rw [if_neg ek, if_neg ek, if_neg ek]
      have e := he.2.2.2.1
      have k1 : k < S.1 8 0 := by omega
      rw [e 9 k (by omega) k0 k1, e 10 k (by omega) k0 k1, e 11 k (by omega) k0 k1, e 12 k (by omega) k0 k1, e 14 k (by omega) k0 k1, e 15 k (by omega) k0 k1]
      exact m4 k k0 k1
  · rw [pI_f _ _ _ (by decide), pI_f _ _ _ (by decide), pI_f _ _ _ (by decide), pI_f _ _ _ (by decide)]
    exact m5 k k0 k1
/-! send -/
def F_send (n : Nat) (S M : ST) (b u c v h : Int) (rl : Bool) (t : Int) (T : ST) : Prop := (t = M.1 0 0 ∧ 0 ≤ M.1 0 0 ∧ M.1 0 0 < 60 ∧ T.1 8 0 = M.1 0 0 + 1 ∧ T.1 26 0 = S.1 26 0 ∧ wf T ∧ actN n S T (pI (pI (pI (pI M 1 (M.1 0 0) (8 * b + u)) 2 (M.1 0 0) (64 * c + v)) 3 (M.1 0 0) (2 * h + bI rl)) 0 0 (M.1 0 0 + 1))) ∨ (t = -1000003 ∧ 0 ≤ M.1 0 0 ∧ M.1 0 0 ≤ 60 ∧ T.1 26 0 = S.1 26 0 ∧ wf T ∧ actN n S T M) ∨ (0 ≤ t ∧ t < M.1 0 0 ∧ M.1 0 0 ≤ 60 ∧ M.1 1 t = 8 * b + u ∧ M.1 2 t = 64 * c + v ∧ T.1 26 0 = S.1 26 0 + 1 ∧ wf T ∧ actN n S T M)
theorem f_send {n : Nat} {S M : ST} (hn : n < 111) (hI : cI n S) (hk : kI (fun c => M.2 0 c) S) (hM : lM S S M) (hd : S.1 0 0 ≤ n) {b msg u c v nm h : Int} {rl : Bool} {d : Int} {st : Bool} (hb : 0 ≤ b ∧ b ≤ 5) (hm : 0 ≤ msg ∧ msg ≤ 99) (hu : 0 ≤ u ∧ u ≤ 5) (hbu : b ≠ u) (hc : 0 ≤ c ∧ c ≤ 2) (hvv : 1 ≤ v ∧ v ≤ 50) (hnm : 0 ≤ nm ∧ nm ≤ 19) (hh : 0 ≤ h ∧ h ≤ 2) (hdd : 0 ≤ d ∧ d ≤ 999) : F_send n S M b u c v h rl (hv (pSend S b msg u c v nm h rl d st).1 (pSend S b msg u c v nm h rl d st).2.1 (-1000001) (-1000002) (-1000003)) (pSend S b msg u c v nm h rl d st).2.2 := by
  have hJ := cI_send (n := n) (by omega) hI b msg u c v nm h rl d st
  have w8 := wf_8 hI.1.1.1 0
  have g0 := hM.1
  have hw := hJ.1.1.1.1
  rcases a_send (rl := rl) (st := st) hI hk hb hm hu hbu hc hvv hnm hh hdd with ⟨e1, e2⟩ | ⟨e1, t0, t1, q1, q2, q3, q4, q5, q6⟩ | ⟨e1, e2, h60, k1, k2, k3, k4, k5, k6, k7, k8, k9, k10, k11⟩
  · right; left
    rw [e1, e2]
    exact ⟨rfl, by omega, by omega, rfl, hI.1.1.1, act_id hI hk hM hd⟩
  · right; right
    rw [e1]
    obtain ⟨p1, p2, p3⟩ := hM.2.2.2.1 _ t0 t1
    exact ⟨t0, by rw [g0]; exact t1, by omega, by rw [q1, q2] at p1; exact p1, by rw [q3, q4] at p2; exact p2, q5, hw, act_same hI hJ hM hd q6⟩
  · left
    rw [e1]
    exact ⟨e2.trans g0.symm, by omega, by omega, by rw [k3, g0], k5, hw, act_new hI hJ hM hd rfl k1 k2 k3 k4 (by rw [k6, k7]) (by rw [k8, k9]) (by rw [k10, k11])⟩
/-! the other calls that change something -/
def F_r (n : Nat) (S M : ST) (lo hi t : Int) (T : ST) : Prop := lo ≤ t ∧ t ≤ hi ∧ wf T ∧ actN n S T M
theorem f_line {n : Nat} {S M : ST} (hn : n < 111) (hI : cI n S) (hk : kI (fun c => M.2 0 c) S) (hM : lM S S M) (hd : S.1 0 0 ≤ n) {b c v : Int} (hb : 0 ≤ b ∧ b ≤ 5) (hc : 0 ≤ c ∧ c ≤ 2) (hvv : 0 ≤ v ∧ v ≤ 59) : F_r n S M 0 59 (hv (pLine S b c v).1 (pLine S b c v).2.1 (-1000001) (-1000002) 0) (pLine S b c v).2.2 := by
  obtain ⟨e, a, x, y⟩ := a_line hI hk hb hc hvv
  have hJ := cI_line (n := n) (by omega) hI b c v
  rw [e]
  exact ⟨x, y, hJ.1.1.1.1, act_same hI hJ hM hd a⟩
theorem f_limit {n : Nat} {S M : ST} (hn : n < 111) (hI : cI n S) (hk : kI (fun c => M.2 0 c) S) (hM : lM S S M) (hd : S.1 0 0 ≤ n) {b u c v : Int} (hb : 0 ≤ b ∧ b ≤ 5) (hu : 0 ≤ u ∧ u ≤ 5) (hbu : b ≠ u) (hc : 0 ≤ c ∧ c ≤ 2) (hvv : -1 ≤ v ∧ v ≤ 78) : F_r n S M (-1) 78 (hv (pLimit S b u c v).1 (pLimit S b u c v).2.1 (-1000001) (-1000002) 0) (pLimit S b u c v).2.2 := by
  obtain ⟨e, a, x, y⟩ := a_limit hI hk hb hu hbu hc hvv
  have hJ := cI_limit (n := n) (by omega) hI b u c v
  rw [e]
  exact ⟨x, y, hJ.1.1.1.1, act_same hI hJ hM hd a⟩
theorem hb01 {a : Int} (h : a = 0 ∨ a = 1) : (if iI a = 0 then (0 : Int) else 1) = a := by rcases h with rfl | rfl <;> decide
theorem f_out {n : Nat} {S M : ST} (hn : n < 111) (hI : cI n S) (hk : kI (fun c => M.2 0 c) S) (hM : lM S S M) (hd : S.1 0 0 ≤ n) {b : Int} {is : Bool} (hb : 0 ≤ b ∧ b ≤ 5) : F_r n S M 0 1 (hv (pOut S b is).1 (if (iI (pOut S b is).2.1) = 0 then 0 else 1) (-1000001) 0 0) (pOut S b is).2.2 := by
  obtain ⟨e, a, x⟩ := a_out hI hk is hb
  have hJ := cI_out (n := n) (by omega) hI b is
  rw [hb01 x, e]
  exact ⟨by show 0 ≤ (pOut S b is).2.1; omega, by show (pOut S b is).2.1 ≤ 1; omega, hJ.1.1.1.1, act_same hI hJ hM hd a⟩
def F_hol (n : Nat) (S M : ST) (is : Bool) (d t : Int) (T : ST) : Prop := ((is = true ∧ t = 0) ∨ (is = false ∧ ((4 < d % 7 ∧ t = 0) ∨ (d % 7 ≤ 4 ∧ t = 1)))) ∧ wf T ∧ actN n S T M
theorem f_holiday {n : Nat} {S M : ST} (hn : n < 111) (hI : cI n S) (hk : kI (fun c => M.2 0 c) S) (hM : lM S S M) (hd : S.1 0 0 ≤ n) {c d : Int} {is : Bool} (hc : 0 ≤ c ∧ c ≤ 2) (hdd : 0 ≤ d ∧ d ≤ 999) : F_hol n S M is d (hv (pHoli S c d is).1 (if (iI (pHoli S c d is).2.1) = 0 then 0 else 1) (-1000001) (-1000002) 0) (pHoli S c d is).2.2 := by
  obtain ⟨e, a, x⟩ := a_holiday hI hk is hc hdd
  have hJ := cI_holi (n := n) (by omega) hI c d is
  have q : (pHoli S c d is).2.1 = 0 ∨ (pHoli S c d is).2.1 = 1 := by rw [x]; split <;> simp
  rw [hb01 q, e]
  refine ⟨?_, hJ.1.1.1.1, act_same hI hJ hM hd a⟩
  show (is = true ∧ (pHoli S c d is).2.1 = 0) ∨ (is = false ∧ ((4 < d % 7 ∧ (pHoli S c d is).2.1 = 0) ∨ (d % 7 ≤ 4 ∧ (pHoli S c d is).2.1 = 1)))
  cases is
  · right
    refine ⟨rfl, ?_⟩
    by_cases z : 4 < d % 7
    · rw [x, if_pos (Or.inr z)]; exact Or.inl ⟨z, rfl⟩
    · rw [x, if_neg (fun h => h.elim (fun y => by cases y) z)]; exact Or.inr ⟨by omega, rfl⟩
  · left
    rw [x, if_pos (Or.inl rfl)]
    exact ⟨rfl, rfl⟩
theorem f_list {n : Nat} {S M : ST} (hn : n < 111) (hI : cI n S) (hk : kI (fun c => M.2 0 c) S) (hM : lM S S M) (hd : S.1 0 0 ≤ n) {nm : Int} {is : Bool} (hm : 0 ≤ nm ∧ nm ≤ 19) : F_r n S M 0 (M.1 0 0) (hv (pList S nm is).1 (pList S nm is).2.1 (-1000001) 0 0) (pList S nm is).2.2 := by
  obtain ⟨e, a, x, y⟩ := a_list hI hk is hm
  have hJ := cI_list (n := n) (by omega) hI nm is
  rw [e]
  exact ⟨x, by rw [hM.1]; exact y, hJ.1.1.1.1, act_same hI hJ hM hd a⟩
theorem f_offset {n : Nat} {S M : ST} (hn : n < 111) (hI : cI n S) (hk : kI (fun c => M.2 0 c) S) (hM : lM S S M) (hd : S.1 0 0 ≤ n) {c : Int} (hc : 0 ≤ c ∧ c ≤ 2) : F_r n S M 0 (M.1 0 0) (hv (pOff S c).1 (pOff S c).2.1 (-1000001) 0 0) (pOff S c).2.2 := by
  obtain ⟨e, a, x, y⟩ := a_off hI hk hc
  have hJ := cI_offset (n := n) (by omega) hI c
  rw [e]
  exact ⟨x, by rw [hM.1]; exact y, hJ.1.1.1.1, act_same hI hJ hM hd a⟩
/-- a payment of the script: none there and 0, or one that there is -/
def itsI (M : ST) (k : Int) : Prop := 0 ≤ k ∧ ((M.1 0 0 = 0 ∧ k = 0) ∨ (0 < M.1 0 0 ∧ k < M.1 0 0))
theorem its_1 {S M : ST} (hM : lM S S M) {k : Int} (h : itsI M k) : 0 < S.1 8 0 → k < S.1 8 0 := by
  have g0 := hM.1
  have := h.2
  omega
def F_join (n : Nat) (S M : ST) (k u t : Int) (T : ST) : Prop := ((M.1 0 0 = 0 ∧ t = -1000001) ∨ (0 < M.1 0 0 ∧ ((t = 0 ∧ (k < u ∨ u < k)) ∨ t = -1000003))) ∧ wf T ∧ actN n S T M
theorem f_join {n : Nat} {S M : ST} (hn : n < 111) (hI : cI n S) (hk : kI (fun c => M.2 0 c) S) (hM : lM S S M) (hd : S.1 0 0 ≤ n) {k u : Int} (h1 : itsI M k) (h2 : itsI M u) : F_join n S M k u (hv (pJoin S k u).1 0 (-1000001) (-1000003) 0) (pJoin S k u).2 := by
  obtain ⟨a, x⟩ := a_join hI hk h1.1 h2.1 (fun h => ⟨its_1 hM h1 h, its_1 hM h2 h⟩)
  have hJ := cI_join (n := n) (by omega) hI k u
  refine ⟨?_, hJ.1.1.1.1, act_same hI hJ hM hd a⟩
  rw [hM.1]
  rcases x with ⟨z, e⟩ | ⟨z, ⟨e, q⟩ | e⟩
  · rw [e]; exact Or.inl ⟨z, rfl⟩
  · rw [e]; exact Or.inr ⟨z, Or.inl ⟨rfl, by omega⟩⟩
  · rw [e]; exact Or.inr ⟨z, Or.inr rfl⟩
def F_end (n : Nat) (S M : ST) (can cant : Prop) (k t : Int) (T : ST) : Prop := ((M.1 0 0 = 0 ∧ t = -1000001) ∨ (0 < M.1 0 0 ∧ ((can ∧ (t = 1 ∨ t = 2) ∧ T.1 18 k = 5) ∨ (cant ∧ t = -1000003 ∧ T.1 18 k = S.1 18 k)))) ∧ T.1 8 0 = S.1 8 0 ∧ wf T ∧ actN n S T M
theorem f_withdraw {n : Nat} {S M : ST} (hn : n < 111) (hI : cI n S) (hk : kI (fun c => M.2 0 c) S) (hM : lM S S M) (hd : S.1 0 0 ≤ n) {k : Int} (h1 : itsI M k) : F_end n S M (S.1 18 k < 4) (4 ≤ S.1 18 k) k (hv (pWith S k).1 (pWith S k).2.1 (-1000001) (-1000003) 0) (pWith S k).2.2 := by
  obtain ⟨a, x⟩ := a_with hI hk h1.1 (its_1 hM h1)
  have hJ := cI_withdraw (n := n) (by omega) hI k
  refine ⟨?_, a.2.2.1, hJ.1.1.1.1, act_same hI hJ hM hd a⟩
  rw [hM.1]
  rcases x with ⟨z, e⟩ | ⟨z, ⟨q, e, r, s⟩ | ⟨q, e, r⟩⟩
  · rw [e]; exact Or.inl ⟨z, rfl⟩
  · rw [e]; exact Or.inr ⟨z, Or.inl ⟨q, r, s⟩⟩
  · rw [e]; exact Or.inr ⟨z, Or.inr ⟨by omega, rfl, by rw [r]⟩⟩
theorem f_refuse {n : Nat} {S M : ST} (hn : n < 111) (hI : cI n S) (hk : kI (fun c => M.2 0 c) S) (hM : lM S S M) (hd : S.1 0 0 ≤ n) {k : Int} (h1 : itsI M k) : F_end n S M (S.1 18 k = 1) (S.1 18 k < 1 ∨ 1 < S.1 18 k) k (hv (pRefu S k).1 (pRefu S k).2.1 (-1000001) (-1000003) 0) (pRefu S k).2.2 := by
  obtain ⟨a, x⟩ := a_refuse hI hk h1.1 (its_1 hM h1)
  have hJ := cI_refuse (n := n) (by omega) hI k
  refine ⟨?_, a.2.2.1, hJ.1.1.1.1, act_same hI hJ hM hd a⟩
  rw [hM.1]
  rcases x with ⟨z, e⟩ | ⟨z, ⟨q, e, r, s⟩ | ⟨q, e, r⟩⟩
  · rw [e]; exact Or.inl ⟨z, rfl⟩
  · rw [e]; exact Or.inr ⟨z, Or.inl ⟨q, r, s⟩⟩
  · rw [e]; exact Or.inr ⟨z, Or.inr ⟨by omega, rfl, by rw [r]⟩⟩
def F_rel (n : Nat) (S M : ST) (k t : Int) (T : ST) : Prop := ((M.1 0 0 = 0 ∧ t = -1000001) ∨ (0 < M.1 0 0 ∧ (((S.1 18 k < 1 ∨ 1 < S.1 18 k) ∧ t = -1000003) ∨ (S.1 18 k = 1 ∧ ((t = -1000003 ∧ T.1 18 k = 1) ∨ (t = 0 ∧ T.1 18 k = 1) ∨ (t = 1 ∧ 1 < T.1 18 k)))))) ∧ T.1 8 0 = S.1 8 0 ∧ wf T ∧ actN n S T M
theorem f_release {n : Nat} {S M : ST} (hn : n < 111) (hI : cI n S) (hk : kI (fun c => M.2 0 c) S) (hM : lM S S M) (hd : S.1 0 0 ≤ n) {k y : Int} (h1 : itsI M k) (hy : 0 ≤ y ∧ y ≤ 3) : F_rel n S M k (hv (pRel S k y).1 (if (iI (pRel S k y).2.1) = 0 then 0 else 1) (-1000001) (-1000003) 0) (pRel S k y).2.2 := by
  obtain ⟨a, x⟩ := a_release hI hk h1.1 (its_1 hM h1) hy
  have hJ := cI_release (n := n) (by omega) hI k y
  refine ⟨?_, a.2.2.1, hJ.1.1.1.1, act_same hI hJ hM hd a⟩
  rw [hM.1]
  rcases x with ⟨z, e⟩ | ⟨z, ⟨q, e⟩ | ⟨q, ⟨e, r⟩ | ⟨e, ⟨r, s⟩ | ⟨r, s⟩⟩⟩⟩
  · rw [e]; exact Or.inl ⟨z, rfl⟩
  · rw [e]; exact Or.inr ⟨z, Or.inl ⟨by omega, rfl⟩⟩
  · rw [e]; exact Or.inr ⟨z, Or.inr ⟨q, Or.inl ⟨rfl, by rw [r]; exact q⟩⟩⟩
  · rw [hb01 (Or.inl r), e, r]; exact Or.inr ⟨z, Or.inr ⟨q, Or.inr (Or.inl ⟨rfl, s⟩)⟩⟩
  · rw [hb01 (Or.inr r), e, r]; exact Or.inr ⟨z, Or.inr ⟨q, Or.inr (Or.inr ⟨rfl, s⟩)⟩⟩
def F_rec (n : Nat) (S M : ST) (k t : Int) (T : ST) : Prop := ((M.1 0 0 = 0 ∧ t = -1000001) ∨ (0 < M.1 0 0 ∧ (t = -1000003 ∨ (t = M.1 0 1 + 2 ∧ T.1 18 k = 4)))) ∧ T.1 8 0 = S.1 8 0 ∧ wf T ∧ actN n S T M
theorem f_recall {n : Nat} {S M : ST} (hn : n < 111) (hI : cI n S) (hk : kI (fun c => M.2 0 c) S) (hM : lM S S M) (hd : S.1 0 0 ≤ n) {k : Int} (h1 : itsI M k) : F_rec n S M k (hv (pRec S k).1 (pRec S k).2.1 (-1000001) (-1000003) 0) (pRec S k).2.2 := by
  obtain ⟨a, x⟩ := a_recall hI hk h1.1 (its_1 hM h1)
  have hJ := cI_recall (n := n) hI k
  refine ⟨?_, a.2.2.1, hJ.1.1.1.1, act_same hI hJ hM hd a⟩
  rw [hM.1, hM.2.1]
  rcases x with ⟨z, e⟩ | ⟨z, e | ⟨e, q, r⟩⟩
  · rw [e]; exact Or.inl ⟨z, rfl⟩
  · rw [e]; exact Or.inr ⟨z, Or.inl rfl⟩
  · rw [e]; exact Or.inr ⟨z, Or.inr ⟨q, r⟩⟩
def F_ans (n : Nat) (S M : ST) (k t : Int) (T : ST) : Prop := (((M.1 0 0 = 0 ∧ t = -1000001) ∨ (0 < M.1 0 0 ∧ t = -1000003)) ∧ wf T ∧ actN n S T M) ∨ (t = M.1 0 0 ∧ 0 < M.1 0 0 ∧ M.1 0 0 < 60 ∧ T.1 8 0 = M.1 0 0 + 1 ∧ T.1 18 k = 4 ∧ k < M.1 0 0 ∧ 0 ≤ M.1 1 k ∧ M.1 1 k ≤ 47 ∧ 0 ≤ M.1 2 k ∧ M.1 2 k ≤ 200 ∧ wf T ∧ actN n S T (pI (pI (pI (pI M 1 t (8 * (M.1 1 k % 8) + M.1 1 k / 8)) 2 t (M.1 2 k)) 3 t 5) 0 0 (M.1 0 0 + 1)))
theorem f_answer {n : Nat} {S M : ST} (hn : n < 111) (hI : cI n S) (hk : kI (fun c => M.2 0 c) S) (hM : lM S S M) (hd : S.1 0 0 ≤ n) {k : Int} (h1 : itsI M k) : F_ans n S M k (hv (pAns S k true).1 (pAns S k true).2.1 (-1000001) (-1000003) 0) (pAns S k true).2.2 := by
  have hJ := cI_answer (n := n) (by omega) hI k true
  have hw := hJ.1.1.1.1
  have g0 := hM.1
  rcases a_answer hI hk h1.1 (its_1 hM h1) with ⟨_, a, x⟩ | ⟨z, h60, e, q0, q1, q2, q3, q4, q5, q6, q7, q8, q9, q10, q11⟩
  · refine Or.inl ⟨?_, hw, act_same hI hJ hM hd a⟩
    rw [g0]
    rcases x with ⟨z, e⟩ | ⟨z, e⟩
    · rw [e]; exact Or.inl ⟨z, rfl⟩
    · rw [e]; exact Or.inr ⟨z, rfl⟩
  · right
    have k1 := its_1 hM h1 z
    obtain ⟨p1, p2, p3⟩ := hM.2.2.2.1 k h1.1 k1
    have w9 := wf_9 hI.1.1.1 k
    have w10 := wf_10 hI.1.1.1 k
    have w11 := wf_11 hI.1.1.1 k
    obtain ⟨_, t2, t3⟩ := hk.2.2.2.2.2.2.2.1 k h1.1 k1
    have et : hv (pAns S k true).1 (pAns S k true).2.1 (-1000001) (-1000003) 0 = M.1 0 0 := by rw [e, q0, g0]; rfl
    rw [et]
    exact ⟨rfl, by omega, by omega, by rw [q3, g0], q11, by omega, by omega, by omega, by omega, by omega, hw, act_new hI hJ hM hd rfl q1 q2 q3 q4 (by rw [q5, q6, p1]; omega) (by rw [q7, q8, p2]) (by rw [q9, q10]; rfl)⟩
def F_adv (n : Nat) (S M : ST) (b t : Int) (T : ST) : Prop := (t = -1 ∨ (0 ≤ t ∧ t < M.1 0 0 ∧ M.1 0 0 ≤ 60 ∧ 0 ≤ M.1 1 t ∧ M.1 1 t ≤ 47 ∧ M.1 1 t % 8 = b ∧ T.1 18 t = 4)) ∧ T.1 8 0 = S.1 8 0 ∧ wf T ∧ actN n S T M
theorem f_advice {n : Nat} {S M : ST} (hn : n < 111) (hI : cI n S) (hk : kI (fun c => M.2 0 c) S) (hM : lM S S M) (hd : S.1 0 0 ≤ n) {b : Int} (hb : 0 ≤ b ∧ b ≤ 5) : F_adv n S M b (hv (pAdv S b).1 (pAdv S b).2.1 (-1000001) 0 0) (pAdv S b).2.2 := by
  obtain ⟨e, a, x⟩ := a_advice hI hk hb
  have hJ := cI_advice (n := n) hI b
  have w8 := wf_8 hI.1.1.1 0
  refine ⟨?_, a.2.2.1, hJ.1.1.1.1, act_same hI hJ hM hd a⟩
  rw [e, hM.1]
  rcases x with x | ⟨x0, x1, x2, x3⟩
  · exact Or.inl x
  · obtain ⟨p1, _, _⟩ := hM.2.2.2.1 _ x0 x1
    have w9 := wf_9 hI.1.1.1 (pAdv S b).2.1
    have w10 := wf_10 hI.1.1.1 (pAdv S b).2.1
    right
    show 0 ≤ (pAdv S b).2.1 ∧ (pAdv S b).2.1 < S.1 8 0 ∧ S.1 8 0 ≤ 60 ∧ 0 ≤ M.1 1 (pAdv S b).2.1 ∧ M.1 1 (pAdv S b).2.1 ≤ 47 ∧ M.1 1 (pAdv S b).2.1 % 8 = b ∧ (pAdv S b).2.2.1 18 (pAdv S b).2.1 = 4
    rw [p1, x2]
    exact ⟨x0, x1, by omega, by omega, by omega, by omega, x3⟩
def F_aga (n : Nat) (S M : ST) (t : Int) (T : ST) : Prop := ((0 ≤ t ∧ t ≤ M.1 0 0 ∧ M.1 0 0 ≤ 60) ∨ t = -1000002) ∧ wf T ∧ actN n S T M
theorem f_again {n : Nat} {S M : ST} (hn : n < 111) (hI : cI n S) (hk : kI (fun c => M.2 0 c) S) (hM : lM S S M) (hd : S.1 0 0 ≤ n) {b y : Int} (hb : 0 ≤ b ∧ b ≤ 5) (hy : 0 ≤ y) : F_aga n S M (hv (pAga S b y).1 (pAga S b y).2.1 (-1000001) (-1000002) 0) (pAga S b y).2.2 := by
  obtain ⟨a, x⟩ := a_again hI hk hb hy
  have hJ := cI_again (n := n) hI b y
  have w8 := wf_8 hI.1.1.1 0
  refine ⟨?_, hJ.1.1.1.1, act_same hI hJ hM hd a⟩
  rw [hM.1]
  rcases x with ⟨e, x0, x1⟩ | e
  · rw [e]; exact Or.inl ⟨x0, x1, by omega⟩
  · rw [e]; exact Or.inr rfl
def F_day (n : Nat) (S M : ST) (t : Int) (T : ST) : Prop := 0 ≤ t ∧ t ≤ M.1 0 0 ∧ M.1 0 0 ≤ 60 ∧ T.1 0 0 = M.1 0 1 + 1 ∧ wf T ∧ actN n S T (pI M 0 1 (M.1 0 1 + 1))
theorem f_endDay {n : Nat} {S M : ST} (hn : n < 111) (hI : cI n S) (hk : kI (fun c => M.2 0 c) S) (hM : lM S S M) (hd : S.1 0 0 ≤ n) : F_day n S M (hv (pEnd S).1 (pEnd S).2.1 (-1000003) 0 0) (pEnd S).2.2 := by
  obtain ⟨e, k1, k2, k3, k4, k5, k6⟩ := a_end (n := n) (by omega) hI hk (by omega)
  have hJ := cI_endDay (n := n) (by omega) hI
  have w8 := wf_8 hI.1.1.1 0
  obtain ⟨m1, m2, m3, m4, m5⟩ := hM
  rw [e]
  refine ⟨k5, by rw [m1]; exact k6, by omega, by rw [k4, m2], hJ.1.1.1.1, hJ.1, k1, ⟨?_, ?_, ?_, fun k q0 q1 => ?_, fun k q0 q1 => ?_⟩, k2, (cJ_31 hI hJ).2, by rw [k4]; omega⟩
  · rw [pI_n _ _ _ _ (Or.inr (by decide)), k3]; exact m1
  · rw [pI_s, k4, m2]
  · rw [pI_n _ _ _ _ (Or.inr (by decide))]; exact m3
  · rw [k3] at q1
    have e := k2.2.2.2.1
    rw [pI_f _ _ _ (by decide), pI_f _ _ _ (by decide), pI_f _ _ _ (by decide), e 9 k (by omega) q0 q1, e 10 k (by omega) q0 q1, e 11 k (by omega) q0 q1, e 12 k (by omega) q0 q1, e 14 k (by omega) q0 q1, e 15 k (by omega) q0 q1]
    exact m4 k q0 q1
  · rw [pI_f _ _ _ (by decide)]
    exact m5 k q0 q1
def F_fund (n : Nat) (S M : ST) (b c v : Int) (t : Int64) (T : ST) : Prop := t = T.2 1 (3 * b + c) ∧ wf T ∧ actN n S T (pL M 0 c (M.2 0 c + Int64.ofInt v))
theorem f_fund {n : Nat} {S M : ST} (hn : n < 111) (hI : cI n S) (hk : kI (fun c => M.2 0 c) S) (hM : lM S S M) (hd : S.1 0 0 ≤ n) {b c v : Int} (hb : 0 ≤ b ∧ b ≤ 5) (hc : 0 ≤ c ∧ c ≤ 2) (hvv : 1 ≤ v ∧ v ≤ 1000000) : F_fund n S M b c v (hvL (pFund S b c v).1 (pFund S b c v).2.1 (-10000001) (-10000002)) (pFund S b c v).2.2 := by
  obtain ⟨e, a, x⟩ := a_fund (n := n) (by omega) hI hk hb hc hvv
  have hJ := cI_fund (n := n) (by omega) hI b c v
  rw [e]
  refine ⟨x, hJ.1.1.1.1, ?_⟩
  have q := act_same hI hJ (M := pL M 0 c (M.2 0 c + Int64.ofInt v)) hM hd (by
    have e2 : (fun x => (pL M 0 c (M.2 0 c + Int64.ofInt v)).2 0 x) = fun x => if x = c then (fun c => M.2 0 c) c + Int64.ofInt v else (fun c => M.2 0 c) x := by
      funext y
      by_cases z : y = c
      · rw [z, pL_s, if_pos rfl]
      · rw [pL_n _ _ _ _ (Or.inr z), if_neg z]
    rw [e2]
    exact a)
  exact q
/-! questions -/
theorem hv_0 (a e1 e2 e3 : Int) : hv 0 a e1 e2 e3 = a := rfl
def F_st (S M : ST) (k t : Int) : Prop := (M.1 0 0 = 0 ∧ t = -1000001) ∨ (0 < M.1 0 0 ∧ t = S.1 18 k ∧ 0 ≤ t ∧ t ≤ 5)
theorem f_state {n : Nat} {S M : ST} (hI : cI n S) (hg : M.1 0 0 = S.1 8 0) {k : Int} (h1 : itsI M k) : F_st S M k (hv (pStat S k).1 (pStat S k).2.1 (-1000001) 0 0) := by
  have w8 := wf_8 hI.1.1.1 0
  have w := wf_18 hI.1.1.1 k
  rcases h1.2 with ⟨a, b⟩ | ⟨a, b⟩
  · rw [a_state_no (by omega)]
    exact Or.inl ⟨a, rfl⟩
  · rw [a_state h1.1 (by omega)]
    exact Or.inr ⟨a, rfl, w.1, w.2⟩
theorem stat_S (S : ST) (k : Int) : (pStat S k).2.2 = S := by unfold pStat; split <;> rfl
