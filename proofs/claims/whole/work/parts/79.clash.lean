/-! who clashes with whom, on both sides -/
section RTS
variable {z : zS} {np nc ns nl ny ch ea : Nat}
theorem q_sc (h : RT z.1 1 0 np nc ns nl ny ch ea) {p j : Nat} (hp : p < np) (hj : j < 32) : bt (scB z 2 (nI p) ns 0) j = true ↔ j < ns ∧ bt (z.1 130 (90 + 2 * j + 1)) p = true := by
  obtain ⟨-, -, n1, -, n3, -⟩ := rt_F h
  unfold scB
  rw [itr_bits (fun i => plB z 2 (nI i) (nI p)) (fun i => i) hj ns 0 (fun i hi => by omega), b_0]
  constructor
  · rintro (q | ⟨i, hi, hg, e⟩)
    · exact absurd q (by decide)
    · subst e
      exact ⟨hi, by rw [← q_pl h hi hp]; exact hg⟩
  · rintro ⟨hi, hg⟩
    exact Or.inr ⟨j, hi, by show plB z 2 (nI j) (nI p) = true; rw [q_pl h hi hp]; exact hg, rfl⟩
theorem near_bt (sa : Int32) {j : Nat} (hj : j < 32) : ∀ c, c < 31 → (bt (nearB sa c) j = true ↔ bt sa j = true ∨ ∃ i, i < c ∧ ((i + 1 ≤ j ∧ bt sa (j - (i + 1)) = true) ∨ (if i + 1 + j < 32 then bt sa (i + 1 + j) else bt sa 31) = true))
  | 0, _ => by simp [nearB, itr]
  | c + 1, hc => by
    have ih := near_bt sa hj c (by omega)
    show bt (nearB sa c ||| (sa <<< (nI (c + 1) &&& 31) ||| sa >>> (nI (c + 1) &&& 31))) j = true ↔ _
    rw [b_or, b_or, b_shl (c + 1) (by omega) sa hj, b_sshr (c + 1) (by omega) sa hj, Bool.or_eq_true, Bool.or_eq_true, Bool.and_eq_true, decide_eq_true_iff, ih]
    constructor
    · rintro ((q | ⟨i, hi, q⟩) | q)
      · exact Or.inl q
      · exact Or.inr ⟨i, by omega, q⟩
      · exact Or.inr ⟨c, by omega, q⟩
    · rintro (q | ⟨i, hi, q⟩)
      · exact Or.inl (Or.inl q)
      · by_cases e : i = c
        · subst e
          exact Or.inr q
        · exact Or.inl (Or.inr ⟨i, by omega, q⟩)
theorem itr_orR (g : Nat → Bool) (n : Nat) (r : Bool) : itr (fun i b => b || g i) n r = (r || itr (fun i b => b || g i) n false) := by
  rw [Bool.eq_iff_iff, Bool.or_eq_true, itr_or, itr_or]
  constructor
  · rintro (q | q)
    · exact Or.inl q
    · exact Or.inr (Or.inr q)
  · rintro (q | q | q)
    · exact Or.inl q
    · exact absurd q (by decide)
    · exact Or.inr q
theorem ccB_t {a b : Nat} (ha : a < 32) (hb : b < 32) : ccB z ns ch (nI a) (nI b) = true ↔ ∃ i, i < ns ∧ ∃ j, j < ns ∧ bt (z.1 130 (90 + 2 * i + 1)) a = true ∧ bt (z.1 130 (90 + 2 * j + 1)) b = true ∧ (if i < j then j - i else i - j) ≤ ch := by
  have e : (fun i r => itr (ccF z (nI a) (nI b) ch i) ns r) = fun i r => r || itr (ccF z (nI a) (nI b) ch i) ns false := by
    funext i r
    exact itr_orR (fun j => bitC (z.1 130 (90 + 2 * i + 1)) (nI a) && bitC (z.1 130 (90 + 2 * j + 1)) (nI b) && decide ((if i < j then j - i else i - j) ≤ ch)) ns r
  unfold ccB
  rw [e, itr_or]
  constructor
  · rintro (q | ⟨i, hi, q⟩)
    · exact absurd q (by decide)
    · rcases (itr_or (fun j => bitC (z.1 130 (90 + 2 * i + 1)) (nI a) && bitC (z.1 130 (90 + 2 * j + 1)) (nI b) && decide ((if i < j then j - i else i - j) ≤ ch)) ns false).mp q with q | ⟨j, hj, q⟩
      · exact absurd q (by decide)
      · rw [Bool.and_eq_true, Bool.and_eq_true, decide_eq_true_iff, bitC_bt ha, bitC_bt hb] at q
        exact ⟨i, hi, j, hj, q.1.1, q.1.2, q.2⟩
  · rintro ⟨i, hi, j, hj, q1, q2, q3⟩
    refine Or.inr ⟨i, hi, (itr_or (fun j => bitC (z.1 130 (90 + 2 * i + 1)) (nI a) && bitC (z.1 130 (90 + 2 * j + 1)) (nI b) && decide ((if i < j then j - i else i - j) ≤ ch)) ns false).mpr (Or.inr ⟨j, hj, ?_⟩)⟩
    rw [Bool.and_eq_true, Bool.and_eq_true, decide_eq_true_iff, bitC_bt ha, bitC_bt hb]
    exact ⟨⟨q1, q2⟩, q3⟩
theorem q_cl (h : RT z.1 1 0 np nc ns nl ny ch ea) {a b : Nat} (ha : a < np) (hb : b < np) : clB z 2 ns ch (nI a) (nI b) = ccB z ns ch (nI a) (nI b) := by
  obtain ⟨-, -, n1, -, n3, n4, -⟩ := rt_F h
  rw [Bool.eq_iff_iff, ccB_t (by omega) (by omega)]
  unfold clB
  rw [decide_eq_true_iff, b_nz]
  constructor
  · intro q
    have : ∃ j, j < 32 ∧ bt (nearB (scB z 2 (nI a) ns 0) ch &&& scB z 2 (nI b) ns 0) j = true := Classical.byContradiction (fun q2 => q (fun j hj => by
      cases hb : bt (nearB (scB z 2 (nI a) ns 0) ch &&& scB z 2 (nI b) ns 0) j with
      | false => rfl
      | true => exact absurd ⟨j, hj, hb⟩ q2))
    obtain ⟨j, hj, q⟩ := this
    rw [b_and, Bool.and_eq_true, near_bt _ hj ch (by omega), q_sc h hb hj, q_sc h ha hj] at q
    obtain ⟨q1, j1, q2⟩ := q
    rcases q1 with ⟨i1, q1⟩ | ⟨i, hi, ⟨i1, q1⟩ | q1⟩
    · exact ⟨j, j1, j, j1, q1, q2, by rw [if_neg (by omega)]; omega⟩
    · rw [q_sc h ha (by omega)] at q1
      exact ⟨j - (i + 1), q1.1, j, j1, q1.2, q2, by split <;> omega⟩
    · by_cases e : i + 1 + j < 32
      · rw [if_pos e, q_sc h ha e] at q1
        exact ⟨i + 1 + j, q1.1, j, j1, q1.2, q2, by split <;> omega⟩
      · rw [if_neg e, q_sc h ha (by decide)] at q1
        omega
  · rintro ⟨i, hi, j, hj, q1, q2, q3⟩ q
    have hj32 : j < 32 := by omega
    have := q j hj32
    have e2 : bt (scB z 2 (nI b) ns 0) j = true := (q_sc h hb hj32).mpr ⟨hj, q2⟩
    have e1 : bt (nearB (scB z 2 (nI a) ns 0) ch) j = true := by
      rw [near_bt _ hj32 ch (by omega), q_sc h ha hj32]
      by_cases e : i = j
      · subst e
        exact Or.inl ⟨hi, q1⟩
      · by_cases lt : i < j
        · rw [if_pos lt] at q3
          refine Or.inr ⟨j - i - 1, by omega, Or.inl ⟨by omega, ?_⟩⟩
          rw [q_sc h ha (by omega), show j - (j - i - 1 + 1) = i by omega]
          exact ⟨hi, q1⟩
        · rw [if_neg lt] at q3
          refine Or.inr ⟨i - j - 1, by omega, Or.inr ?_⟩
          rw [show i - j - 1 + 1 + j = i by omega, if_pos (by omega), q_sc h ha (by omega)]
          exact ⟨hi, q1⟩
    rw [b_and, e1, e2] at this
    exact absurd this (by decide)
theorem q_clr (h : RT z.1 1 0 np nc ns nl ny ch ea) {a : Nat} (ha : a < np) : clrow z 2 np ns ch a = lcrow z np ns ch a := by
  unfold clrow lcrow
  refine itr_congr np (fun b hb => ?_)
  generalize itr _ b _ = x
  rw [q_cl h ha hb]
  split
  · rfl
  · rw [Int32.or_zero]
end RTS
