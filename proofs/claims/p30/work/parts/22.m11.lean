/-! the reference's constructor -/
def nx (ix : Nat → Nat) (a q : Nat) : Nat → Nat := fun i => if i = a then q else ix i
theorem nx_s (ix : Nat → Nat) (a q : Nat) : nx ix a q a = q := by simp [nx]
theorem nx_n (ix : Nat → Nat) {a i : Nat} (q : Nat) (h : i ≠ a) : nx ix a q i = ix i := by simp [nx, h]
def Zs : ST := (fun _ _ => 0, fun _ _ => 0)
def sIni1 (n : Nat) : ST := foS (fun k S => pI S 3 k (-1)) Zs n
def sIni2 (n : Nat) : ST := foS (fun k S => pI S 25 k (-1)) (sIni1 108) n
/-- the state at the start -/
def sIni : ST := sIni2 600
theorem Zs_wf : wf Zs := fun f j => by
  show rLo f ≤ 0 ∧ 0 ≤ rHi f
  constructor
  · unfold rLo; split <;> omega
  · unfold rHi; split <;> omega
theorem sIni1_wf : ∀ n : Nat, wf (sIni1 n)
  | 0 => Zs_wf
  | n + 1 => wf_pI (sIni1_wf n) _ _ (by simp only [rLo, rHi]; omega)
theorem sIni2_wf : ∀ n : Nat, wf (sIni2 n)
  | 0 => sIni1_wf 108
  | n + 1 => wf_pI (sIni2_wf n) _ _ (by simp only [rLo, rHi]; omega)
theorem sIni1_f {f : Nat} (h : f ≠ 3) : ∀ n : Nat, (sIni1 n).1 f = Zs.1 f
  | 0 => rfl
  | n + 1 => (pI_f (sIni1 n) _ _ h).trans (sIni1_f h n)
theorem sIni2_f {f : Nat} (h : f ≠ 3) (h2 : f ≠ 25) : ∀ n : Nat, (sIni2 n).1 f = Zs.1 f
  | 0 => sIni1_f h 108
  | n + 1 => (pI_f (sIni2 n) _ _ h2).trans (sIni2_f h h2 n)
theorem sIni1_3 : ∀ (n : Nat) (j : Int), (sIni1 n).1 3 j = if 0 ≤ j ∧ j < n then -1 else 0
  | 0, j => by rw [if_neg (by omega)]; rfl
  | n + 1, j => by
    show (pI (sIni1 n) 3 n (-1)).1 3 j = _
    by_cases e : j = n
    · rw [e, pI_s, if_pos (by omega)]
    · rw [pI_n _ _ _ _ (Or.inr e), sIni1_3 n j]
      by_cases h : 0 ≤ j ∧ j < n
      · rw [if_pos h, if_pos (by omega)]
      · rw [if_neg h, if_neg (by omega)]
theorem sIni2_25 : ∀ (n : Nat) (j : Int), (sIni2 n).1 25 j = if 0 ≤ j ∧ j < n then -1 else 0
  | 0, j => by rw [if_neg (by omega)]; show (sIni1 108).1 25 j = 0; rw [sIni1_f (by decide)]; rfl
  | n + 1, j => by
    show (pI (sIni2 n) 25 n (-1)).1 25 j = _
    by_cases e : j = n
    · rw [e, pI_s, if_pos (by omega)]
    · rw [pI_n _ _ _ _ (Or.inr e), sIni2_25 n j]
      by_cases h : 0 ≤ j ∧ j < n
      · rw [if_pos h, if_pos (by omega)]
      · rw [if_neg h, if_neg (by omega)]
theorem sIni_ok : okS sIni := by
  have h18 : sIni.1 18 = Zs.1 18 := sIni2_f (by decide) (by decide) 600
  have hc : cNF sIni = 60 := by unfold cNF; rw [h18]; decide
  refine ⟨sIni2_wf 600, ?_, ?_, fun b _ _ => ?_⟩
  · rw [hc, show sIni.1 27 0 = 0 from congrFun (sIni2_f (by decide) (by decide) 600) 0]; rfl
  · rw [hc, show sIni.1 31 0 = 0 from congrFun (sIni2_f (by decide) (by decide) 600) 0]; decide
  · rw [hc, show sIni.1 44 b = 0 from congrFun (sIni2_f (by decide) (by decide) 600) b]; decide
