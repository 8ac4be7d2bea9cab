/-! Script's methods -/
def b2 (p : Prop) [Decidable p] : Int32 := if p then 1 else 0
theorem s_hasPart {o : Nat} (ho : isO6 o) (E : zE) (d : Nat) (z : zS) (p : Int32) (K : Option Value → zH → Prop) : Cl E d 61 [.ref o, .int p] (HP z) K = K (some (.int (b2 (¬ p < 0 ∧ p < z.1 o 0)))) (HP z) := by
  simp only [↓c_X6_hasPart, ↓e_X6_hasPart_0, ↓e_X6_hasPart_4, ↓e_X6_hasPart_9, ↓e_X6_hasPart_12, ↓e_X6_hasPart_16, ↓e_X6_hasPart_17, g6 ho, b2]
  by_cases h1 : p < 0 <;> by_cases h2 : p < z.1 o 0 <;> simp [h1, h2]
theorem s_hasChild {o : Nat} (ho : isO6 o) (E : zE) (d : Nat) (z : zS) (p : Int32) (K : Option Value → zH → Prop) : Cl E d 62 [.ref o, .int p] (HP z) K = K (some (.int (b2 (¬ p < 0 ∧ p < z.1 o 4)))) (HP z) := by
  simp only [↓c_X6_hasChild, ↓e_X6_hasChild_0, ↓e_X6_hasChild_4, ↓e_X6_hasChild_9, ↓e_X6_hasChild_12, ↓e_X6_hasChild_16, ↓e_X6_hasChild_17, g6 ho, b2]
  by_cases h1 : p < 0 <;> by_cases h2 : p < z.1 o 4 <;> simp [h1, h2]
theorem s_hasScene {o : Nat} (ho : isO6 o) (E : zE) (d : Nat) (z : zS) (p : Int32) (K : Option Value → zH → Prop) : Cl E d 63 [.ref o, .int p] (HP z) K = K (some (.int (b2 (¬ p < 0 ∧ p < z.1 o 11)))) (HP z) := by
  simp only [↓c_X6_hasScene, ↓e_X6_hasScene_0, ↓e_X6_hasScene_4, ↓e_X6_hasScene_9, ↓e_X6_hasScene_12, ↓e_X6_hasScene_16, ↓e_X6_hasScene_17, g6 ho, b2]
  by_cases h1 : p < 0 <;> by_cases h2 : p < z.1 o 11 <;> simp [h1, h2]
theorem s_plays {o : Nat} (ho : isO6 o) (hp : isI (o + 11) 7) (E : zE) (d : Nat) (z : zS) (s p : Int32) (K : Option Value → zH → Prop) (hs : z.1 o 11 ≤ 7) : Cl E (d + 1) 64 [.ref o, .int s, .int p] (HP z) K = K (some (.int (b2 ((¬ s < 0 ∧ s < z.1 o 11) ∧ (¬ p < 0 ∧ p < z.1 o 0) ∧ ¬ (z.1 (o + 11) s.toNatClampNeg >>> (p &&& 31)) &&& 1 = 0)))) (HP z) := by
  simp only [↓c_X6_plays, ↓e_X6_plays_0, ↓e_X6_plays_5, ↓e_X6_plays_8, ↓e_X6_plays_13, ↓e_X6_plays_16, ↓e_X6_plays_20, ↓e_X6_plays_22, ↓e_X6_plays_29, ↓e_X6_plays_33, ↓e_X6_plays_34, g6 ho, v6 ho, s_hasScene ho, s_hasPart ho, zps_s, HP_ri hp]
  trace_state
  sorry
