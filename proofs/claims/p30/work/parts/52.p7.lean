/-! one payment settled: what the class writes is what sFin says, but for the rows that the class has not -/
def sTl (S : ST) (k : Int) : ST := pI (pI (sPy (pI (pI S 18 k 4) 41 k (S.1 0 0)) k) 43 (60 * S.1 10 k + S.1 44 (S.1 10 k)) k) 44 (S.1 10 k) (S.1 44 (S.1 10 k) + 1)
theorem ofInt_neg64 (x : Int) : Int64.ofInt (-x) = -Int64.ofInt x := Int64.ofInt_neg x
theorem sTl_2 (S : ST) (k : Int) : (sTl S k).2 = (sFin S k).2 := by
  have h1 : (sTl S k).2 = (pL (sPd S k) 4 (3 * (6 * S.1 10 k + S.1 9 k) + S.1 11 k) ((sPd S k).2 4 (3 * (6 * S.1 10 k + S.1 9 k) + S.1 11 k) + Int64.ofInt (-(S.1 12 k)))).2 := rfl
  have h2 : (sFin S k).2 = (pL (sPd S k) 4 (3 * (6 * S.1 10 k + S.1 9 k) + S.1 11 k) ((sPd S k).2 4 (3 * (6 * S.1 10 k + S.1 9 k) + S.1 11 k) - Int64.ofInt (S.1 12 k))).2 := rfl
  rw [h1, h2, ofInt_neg64, sub_neg64]
theorem sTl_1 (S : ST) (k : Int) : (sTl S k).1 = (pI (pI (pI (pI (pI S 18 k 4) 41 k (S.1 0 0)) 31 0 (S.1 31 0 + 1)) 43 (60 * S.1 10 k + S.1 44 (S.1 10 k)) k) 44 (S.1 10 k) (S.1 44 (S.1 10 k) + 1)).1 := rfl
theorem sTl_eq (S : ST) (k : Int) : kEq (sFin S k) (sTl S k) := by
  refine ⟨sTl_2 S k, fun f h20 h22 h23 h27 h28 => ?_⟩
  rw [sTl_1, sFin_1]
  funext j
  by_cases e44 : f = 44
  · subst e44; simp [pI]
  · by_cases e43 : f = 43
    · subst e43; simp [pI]
    · by_cases e41 : f = 41
      · subst e41; simp [pI]
      · by_cases e31 : f = 31
        · subst e31; simp [pI]
        · by_cases e18 : f = 18
          · subst e18; simp [pI]
          · rw [pI_f _ _ _ e44, pI_f _ _ _ e43, pI_f _ _ _ e31, pI_f _ _ _ e41, pI_f _ _ _ e18, pI_f _ _ _ e44, pI_f _ _ _ e43, pI_f _ _ _ e41, pI_f _ _ _ h27, pI_f _ _ _ h28, pI_f _ _ _ e31, pI_f _ _ _ h22, pI_f _ _ _ e18]
/-- a loop whose objects made so far go with its variable -/
theorem lp_v1 {A1 : Type} {Wg : A1 → Heap → List Loc → Array Slot → Prop} (I : A1 → Heap → List Loc → Array Slot → Prop) (μ : A1 → Nat) (hs : ∀ (a1 : A1) (H : Heap) (locs : List Loc) (ls : Array Slot), I a1 H locs ls → (∀ (b1 : A1) (H' : Heap) (locs' : List Loc) (ls' : Array Slot), μ b1 < μ a1 → I b1 H' locs' ls' → Wg b1 H' locs' ls') → Wg a1 H locs ls) : ∀ (a1 : A1) (H : Heap) (locs : List Loc) (ls : Array Slot), I a1 H locs ls → Wg a1 H locs ls := by
  have key : ∀ (n : Nat) (a1 : A1) (H : Heap) (locs : List Loc) (ls : Array Slot), μ a1 < n → I a1 H locs ls → Wg a1 H locs ls := by
    intro n
    induction n with
    | zero => intro a1 H locs ls h; omega
    | succ n ih => intro a1 H locs ls h hI; exact hs a1 H locs ls hI (fun b1 H' locs' ls' hb hI' => ih b1 H' locs' ls' (by omega) hI')
  exact fun a1 H locs ls hI => key (μ a1 + 1) a1 H locs ls (by omega) hI
/-- the same count of cells and slots under another name -/
theorem w_cs {p : Program} {l : Launch} {e : Env} {R : Room} {s : State} {m : MethodId} {args : Array Value} {below : List Frame} {meth : Method} {c : Code} {H : Heap} {locs : List Loc} {cells slots cells' slots' : Nat} {Q : State → Prop} {g : JFrame} (h1 : cells = cells') (h2 : slots = slots') (k : W p l e R s m args below meth c H locs cells' slots' Q g) : W p l e R s m args below meth c H locs cells slots Q g := by
  subst h1
  subst h2
  exact k
