/-! ints by their bits (the first rows out of kit/laws/BITS.to-paste) -/
def bt (x : Int32) (i : Nat) : Bool := x.toBitVec.getLsbD i
theorem b_ext {x y : Int32} (h : ∀ i, i < 32 → bt x i = bt y i) : x = y := Int32.toBitVec_inj.mp (BitVec.eq_of_getLsbD_eq (fun i hi => h i hi))
theorem b_or (x y : Int32) (i : Nat) : bt (x ||| y) i = (bt x i || bt y i) := by unfold bt; rw [Int32.toBitVec_or, BitVec.getLsbD_or]
theorem b_and (x y : Int32) (i : Nat) : bt (x &&& y) i = (bt x i && bt y i) := by unfold bt; rw [Int32.toBitVec_and, BitVec.getLsbD_and]
theorem b_xor (x y : Int32) (i : Nat) : bt (x ^^^ y) i = (bt x i ^^ bt y i) := by unfold bt; rw [Int32.toBitVec_xor, BitVec.getLsbD_xor]
theorem b_big {x : Int32} {i : Nat} (h : 32 ≤ i) : bt x i = false := BitVec.getLsbD_of_ge _ _ h
theorem b_255 (i : Nat) : bt 255 i = decide (i < 8) := by
  rcases Nat.lt_or_ge i 32 with h | h
  · exact (by decide +kernel : ∀ i, i < 32 → bt 255 i = decide (i < 8)) i h
  · rw [b_big h, decide_eq_false (by omega)]
theorem b_65535 (i : Nat) : bt 65535 i = decide (i < 16) := by
  rcases Nat.lt_or_ge i 32 with h | h
  · exact (by decide +kernel : ∀ i, i < 32 → bt 65535 i = decide (i < 16)) i h
  · rw [b_big h, decide_eq_false (by omega)]
theorem b_m1 : ∀ i, i < 32 → bt (-1) i = true := by decide +kernel
theorem b_0 (i : Nat) : bt 0 i = false := BitVec.getLsbD_zero
theorem s_l : ∀ n, n < 32 → ((nI n &&& 31).toBitVec.smod 32).toNat = n := by decide +kernel
theorem s_u : ∀ n, n < 32 → (((nI n).toUInt32 &&& Int32.toUInt32 31).toBitVec % 32).toNat = n := by decide +kernel
theorem b_shl (n : Nat) (hn : n < 32) (x : Int32) {i : Nat} (hi : i < 32) : bt (x <<< (nI n &&& 31)) i = (decide (n ≤ i) && bt x (i - n)) := by
  unfold bt
  rw [Int32.toBitVec_shiftLeft]
  show (x.toBitVec <<< ((nI n &&& 31).toBitVec.smod 32).toNat).getLsbD i = _
  rw [s_l n hn, BitVec.getLsbD_shiftLeft]
  rcases Nat.lt_or_ge i n with h | h
  · simp [h, Nat.not_le.mpr h]
  · simp [hi, h, Nat.not_lt.mpr h]
theorem b_ushr (n : Nat) (hn : n < 32) (x : Int32) (i : Nat) : bt ((x.toUInt32 >>> ((nI n).toUInt32 &&& Int32.toUInt32 31)).toInt32) i = bt x (n + i) := by
  show (x.toUInt32 >>> ((nI n).toUInt32 &&& Int32.toUInt32 31)).toBitVec.getLsbD i = x.toUInt32.toBitVec.getLsbD (n + i)
  rw [UInt32.toBitVec_shiftRight]
  show (x.toUInt32.toBitVec >>> (((nI n).toUInt32 &&& Int32.toUInt32 31).toBitVec % 32).toNat).getLsbD i = _
  rw [s_u n hn, BitVec.getLsbD_ushiftRight]
theorem b_sshr (n : Nat) (hn : n < 32) (x : Int32) {i : Nat} (hi : i < 32) : bt (x >>> (nI n &&& 31)) i = if n + i < 32 then bt x (n + i) else bt x 31 := by
  unfold bt
  rw [Int32.toBitVec_shiftRight]
  show (x.toBitVec.sshiftRight ((nI n &&& 31).toBitVec.smod 32).toNat).getLsbD i = _
  rw [s_l n hn, BitVec.getLsbD_sshiftRight, BitVec.msb_eq_getLsbD_last]
  simp [hi]
theorem b_1 (i : Nat) (hi : i < 32) : bt 1 i = decide (i = 0) := (by decide +kernel : ∀ i, i < 32 → bt 1 i = decide (i = 0)) i hi
theorem b_nz {x : Int32} : x = 0 ↔ ∀ i, i < 32 → bt x i = false := by
  constructor
  · rintro rfl i _
    exact b_0 i
  · exact fun h => b_ext (fun i hi => by rw [h i hi, b_0])
theorem b_and1 (y : Int32) : y &&& 1 = if bt y 0 = true then 1 else 0 := by
  refine b_ext (fun i hi => ?_)
  rw [b_and, b_1 i hi]
  by_cases h0 : i = 0
  · subst h0
    cases h : bt y 0 <;> simp [b_1 0, b_0]
  · cases h : bt y 0 <;> simp [h0, b_1 i hi, b_0]
theorem b_sh0 {p : Nat} (hp : p < 32) (x : Int32) : bt (x >>> (nI p &&& 31)) 0 = bt x p := by
  rw [b_sshr p hp x (by decide : (0 : Nat) < 32), if_pos (by omega)]
  rfl
theorem i01 : ((1 : Int32) = 0) = False := by decide
theorem i10 : ((0 : Int32) = 1) = False := by decide
theorem bit0 {p : Nat} (hp : p < 32) (x : Int32) : (x >>> (nI p &&& 31) &&& 1 = 0) = (bt x p = false) := by
  rw [b_and1, b_sh0 hp]
  cases bt x p <;> simp [i01]
theorem bit1 {p : Nat} (hp : p < 32) (x : Int32) : (x >>> (nI p &&& 31) &&& 1 = 1) = (bt x p = true) := by
  rw [b_and1, b_sh0 hp]
  cases bt x p <;> simp [i10]
theorem bitB_bt {p : Nat} (hp : p < 32) (x : Int32) : bitB x (nI p) = bt x p := by
  unfold bitB
  simp only [bit0 hp]
  cases bt x p <;> simp
theorem bitC_bt {p : Nat} (hp : p < 32) (x : Int32) : bitC x (nI p) = bt x p := by
  unfold bitC
  simp only [bit1 hp]
  cases bt x p <;> simp
theorem b_one {p i : Nat} (hp : p < 32) (hi : i < 32) : bt ((1 : Int32) <<< (nI p &&& 31)) i = decide (i = p) := by
  rw [b_shl p hp 1 hi]
  by_cases h : i = p
  · subst h
    simp [b_1 0]
  · by_cases h2 : p ≤ i
    · rw [b_1 _ (by omega)]
      have : ¬ i - p = 0 := by omega
      simp [h, this]
    · simp [h, h2]
/-- some of n -/
theorem itr_or (g : Nat → Bool) : ∀ (n : Nat) (r : Bool), itr (fun i b => b || g i) n r = true ↔ r = true ∨ ∃ i, i < n ∧ g i = true
  | 0, r => by simp [itr]
  | n + 1, r => by
    show (itr (fun i b => b || g i) n r || g n) = true ↔ _
    rw [Bool.or_eq_true, itr_or g n r]
    constructor
    · rintro ((h | ⟨i, hi, h⟩) | h)
      · exact Or.inl h
      · exact Or.inr ⟨i, by omega, h⟩
      · exact Or.inr ⟨n, by omega, h⟩
    · rintro (h | ⟨i, hi, h⟩)
      · exact Or.inl (Or.inl h)
      · by_cases e : i = n
        · subst e
          exact Or.inr h
        · exact Or.inl (Or.inr ⟨i, by omega, h⟩)
/-- all of n -/
theorem itr_and (g : Nat → Bool) : ∀ (n : Nat) (r : Bool), itr (fun i b => b && g i) n r = true ↔ r = true ∧ ∀ i, i < n → g i = true
  | 0, r => by simp [itr]
  | n + 1, r => by
    show (itr (fun i b => b && g i) n r && g n) = true ↔ _
    rw [Bool.and_eq_true, itr_and g n r]
    constructor
    · rintro ⟨⟨h, h1⟩, h2⟩
      refine ⟨h, fun i hi => ?_⟩
      by_cases e : i = n
      · subst e
        exact h2
      · exact h1 i (by omega)
    · rintro ⟨h, h1⟩
      exact ⟨⟨h, fun i hi => h1 i (by omega)⟩, h1 n (by omega)⟩
/-- bits set one by one -/
theorem itr_bits (g : Nat → Bool) (k : Nat → Nat) {j : Nat} (hj : j < 32) : ∀ (n : Nat) (x : Int32) (_ : ∀ i, i < n → k i < 32), bt (itr (fun i b => if g i = true then b ||| (1 <<< (nI (k i) &&& 31)) else b) n x) j = true ↔ bt x j = true ∨ ∃ i, i < n ∧ g i = true ∧ k i = j
  | 0, x, _ => by simp [itr]
  | n + 1, x, hk => by
    have ih := itr_bits g k hj n x (fun i hi => hk i (by omega))
    show bt (if g n = true then itr _ n x ||| (1 <<< (nI (k n) &&& 31)) else itr _ n x) j = true ↔ _
    by_cases hg : g n = true
    · rw [if_pos hg, b_or, b_one (hk n (by omega)) hj, Bool.or_eq_true, ih, decide_eq_true_iff]
      constructor
      · rintro ((h | ⟨i, hi, h⟩) | h)
        · exact Or.inl h
        · exact Or.inr ⟨i, by omega, h⟩
        · exact Or.inr ⟨n, by omega, hg, h.symm⟩
      · rintro (h | ⟨i, hi, h⟩)
        · exact Or.inl (Or.inl h)
        · by_cases e : i = n
          · subst e
            exact Or.inr h.2.symm
          · exact Or.inl (Or.inr ⟨i, by omega, h⟩)
    · rw [if_neg hg, ih]
      constructor
      · rintro (h | ⟨i, hi, h⟩)
        · exact Or.inl h
        · exact Or.inr ⟨i, by omega, h⟩
      · rintro (h | ⟨i, hi, h⟩)
        · exact Or.inl h
        · by_cases e : i = n
          · subst e
            exact absurd h.1 hg
          · exact Or.inr ⟨i, by omega, h⟩
