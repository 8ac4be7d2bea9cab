/-! READ: readNumber, in the reference -/
section F4
variable {tx : Nat → Int32} {nl : Nat}
def LD4 (f : Nat → Nat → Int32) (s e : Nat) (k v : Int32) : Prop := f 129 4 = nI e ∧ f 129 5 = nI s ∧ RK k v (f 129 6) (f 129 7) ∧ f 129 8 = -1
theorem in_nm {n lo hb : Nat} (hn : n ≤ 99) (hl : lo ≤ 100) (hh : hb ≤ 100) : inL (nI n).toInt64 (nI lo).toInt64 (nI hb - 1).toInt64 = decide (lo ≤ n ∧ n < hb) := by
  unfold inL
  have e1 : (¬ (nI n).toInt64 < (nI lo).toInt64) ↔ lo ≤ n := by
    rw [Int64.lt_iff_toInt_lt, Int32.toInt_toInt64, Int32.toInt_toInt64, nI_toInt (by omega), nI_toInt (by omega)]
    omega
  have e2 : (¬ (nI hb - 1).toInt64 < (nI n).toInt64) ↔ n < hb := by
    have := nm_hi hn hh
    rw [Int64.lt_iff_toInt_lt, Int32.toInt_toInt64, Int32.toInt_toInt64, ← Int32.lt_iff_toInt_lt, this]
    omega
  rw [Bool.eq_iff_iff, Bool.and_eq_true, decide_eq_true_iff, decide_eq_true_iff, decide_eq_true_iff, e1, e2]
end F4
