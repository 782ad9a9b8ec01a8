theorem foS_s {σ : Type} (f : Int → σ → σ) (s : σ) (n : Nat) : foS f s (n + 1) = f n (foS f s n) := rfl
