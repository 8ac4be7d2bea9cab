/-! a loop that may return on its way -/
def fnd {σ : Type} (f : Nat → σ → σ) (p : Nat → σ → Bool) : Nat → Nat → σ → Option Nat × σ
  | 0, _, s => (none, s)
  | k + 1, i, s => if p i s = true then (some i, f i s) else fnd f p k (i + 1) (f i s)
def fndR {σ : Type} (R : Nat → σ → Prop) (Z : σ → Prop) (x : Option Nat × σ) : Prop := match x.1 with
  | some j => R j x.2
  | none => Z x.2
theorem fnd_eq {σ : Type} (W : Nat → σ → Prop) (f : Nat → σ → σ) (p : Nat → σ → Bool) (R : Nat → σ → Prop) (Z : σ → Prop) (I : σ → Prop) (n : Nat) (hI : ∀ i s, i < n → I s → I (f i s)) (hs : ∀ i s, i < n → I s → W i s = if p i s = true then R i (f i s) else W (i + 1) (f i s)) (he : ∀ s, I s → W n s = Z s) : ∀ k i s, i + k = n → I s → W i s = fndR R Z (fnd f p k i s)
  | 0, i, s, hi, h => by
    have e : i = n := by omega
    subst e
    exact he s h
  | k + 1, i, s, hi, h => by
    rw [hs i s (by omega) h]
    unfold fnd
    by_cases hp : p i s = true
    · rw [if_pos hp, if_pos hp]
      rfl
    · rw [if_neg hp, if_neg hp]
      exact fnd_eq W f p R Z I n hI hs he k (i + 1) (f i s) (by omega) (hI i s (by omega) h)
