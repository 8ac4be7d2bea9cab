/-! the reference: loops -/
theorem st_k {k : Nat} (hk : k < 1083) (E : zE) (z : zS) (K : Int32 → Prop) : zri E (HP z) 130 (nI k) K = K (z.1 130 k) := by
  rw [HP_ri i130, nI_cl (show k < 2 ^ 31 by omega), in_nI hk (by decide), true_and]
theorem stL : (∀ (E : zE) (z : zS) (K : Int32 → Prop), zri E (HP z) 130 104 K = K (z.1 130 104)) ∧ (∀ (E : zE) (z : zS) (K : Int32 → Prop), zri E (HP z) 130 105 K = K (z.1 130 105)) ∧ (∀ (E : zE) (z : zS) (K : Int32 → Prop), zri E (HP z) 130 106 K = K (z.1 130 106)) ∧ (∀ (E : zE) (z : zS) (K : Int32 → Prop), zri E (HP z) 130 107 K = K (z.1 130 107)) ∧ (∀ (E : zE) (z : zS) (K : Int32 → Prop), zri E (HP z) 130 108 K = K (z.1 130 108)) ∧ (∀ (E : zE) (z : zS) (K : Int32 → Prop), zri E (HP z) 130 109 K = K (z.1 130 109)) ∧ (∀ (E : zE) (z : zS) (K : Int32 → Prop), zri E (HP z) 130 120 K = K (z.1 130 120)) := by
  refine ⟨fun E z K => ?_, fun E z K => ?_, fun E z K => ?_, fun E z K => ?_, fun E z K => ?_, fun E z K => ?_, fun E z K => ?_⟩
  · exact st_k (k := 104) (by decide) E z K
  · exact st_k (k := 105) (by decide) E z K
  · exact st_k (k := 106) (by decide) E z K
  · exact st_k (k := 107) (by decide) E z K
  · exact st_k (k := 108) (by decide) E z K
  · exact st_k (k := 109) (by decide) E z K
  · exact st_k (k := 120) (by decide) E z K
theorem m_power (E : zE) (d : Nat) (v : Int64) {n : Nat} (hn : n < 2 ^ 31) (h : zH) (K : Option Value → zH → Prop) : Cl E d 207 [.long v, .int (nI n)] h K = K (some (.long (itr (fun _ b => b * v) n 1))) h := by
  have loop := itr_eq (fun i b => Ev E d zm_X9_power 5 [some (.long v), none, some (.int (nI n)), some (.long b), none, some (.int (nI i))] [] h K) (fun _ b => b * v) 1 n (fun i hi => by
    generalize itr _ i _ = b
    rw [e_X9_power_5]
    simp only [↓e_X9_power_11, ↓e_X9_power_21, zk_i, zk_l, zk_n, nI_lt_iff (show i < 2 ^ 31 by omega) hn, hi, ↓reduceIte, nI_1])
  simp only [↓c_X9_power, ↓e_X9_power_0, ↓e_X9_power_11, ↓e_X9_power_21, zk_i, zk_l, zk_n]
  rw [nI_0] at loop
  rw [loop, e_X9_power_5]
  simp only [↓e_X9_power_11, ↓e_X9_power_21, nI_lt_iff hn hn, Nat.lt_irrefl, ↓reduceIte]
theorem m_whole (E : zE) (d : Nat) {n : Nat} (hn : n < 2 ^ 31) {z : zS} (hz : z.1 130 105 = nI n) (K : Option Value → zH → Prop) : Cl E d 192 [.ref 129] (HP z) K = K (some (.long (itr (fun _ b => b * 20) n 1))) (HP z) := by
  have loop := itr_eq (fun i b => Ev E d zm_X9_whole 4 [some (.ref 129), some (.long b), none, some (.int (nI i))] [] (HP z) K) (fun _ b => b * 20) 1 n (fun i hi => by
    generalize itr _ i _ = b
    rw [e_X9_whole_4]
    simp only [↓e_X9_whole_9, ↓e_X9_whole_12, ↓e_X9_whole_15, ↓e_X9_whole_27, g9 o9_129, Nat.reduceAdd, stL, hz, zk_i, zk_r, zk_l, zk_n, nI_lt_iff (show i < 2 ^ 31 by omega) hn, hi, ↓reduceIte, nI_1])
  simp only [↓c_X9_whole, ↓e_X9_whole_0, ↓e_X9_whole_9, ↓e_X9_whole_12, ↓e_X9_whole_15, ↓e_X9_whole_27, zk_i, zk_r, zk_l, zk_n]
  rw [nI_0] at loop
  rw [loop, e_X9_whole_4]
  simp only [↓e_X9_whole_9, ↓e_X9_whole_12, ↓e_X9_whole_15, ↓e_X9_whole_27, g9 o9_129, Nat.reduceAdd, stL, hz, nI_lt_iff hn hn, Nat.lt_irrefl, ↓reduceIte]
theorem m_rows (E : zE) (d : Nat) (m : Int32) {n : Nat} (hn : n < 2 ^ 31) {z : zS} (hz : z.1 130 104 = nI n) (K : Option Value → zH → Prop) : Cl E d 161 [.ref 129, .int m] (HP z) K = K (some (.int (itr (fun _ b => b * m) n 1))) (HP z) := by
  have loop := itr_eq (fun i b => Ev E d zm_X9_rows 4 [some (.ref 129), some (.int m), some (.int b), some (.int (nI i))] [] (HP z) K) (fun _ b => b * m) 1 n (fun i hi => by
    generalize itr _ i _ = b
    rw [e_X9_rows_4]
    simp only [↓e_X9_rows_9, ↓e_X9_rows_12, ↓e_X9_rows_15, ↓e_X9_rows_25, g9 o9_129, Nat.reduceAdd, stL, hz, zk_i, zk_r, zk_l, zk_n, nI_lt_iff (show i < 2 ^ 31 by omega) hn, hi, ↓reduceIte, nI_1])
  simp only [↓c_X9_rows, ↓e_X9_rows_0, ↓e_X9_rows_9, ↓e_X9_rows_12, ↓e_X9_rows_15, ↓e_X9_rows_25, zk_i, zk_r, zk_l, zk_n]
  rw [nI_0] at loop
  rw [loop, e_X9_rows_4]
  simp only [↓e_X9_rows_9, ↓e_X9_rows_12, ↓e_X9_rows_15, ↓e_X9_rows_25, g9 o9_129, Nat.reduceAdd, stL, hz, nI_lt_iff hn hn, Nat.lt_irrefl, ↓reduceIte]
theorem m_players (E : zE) (d : Nat) {n : Nat} (hn : n ≤ 6) {z : zS} (hz : z.1 130 104 = nI n) (K : Option Value → zH → Prop) : Cl E d 162 [.ref 129] (HP z) K = K (some (.int (itr (fun i b => b ||| (1 <<< (z.1 135 i &&& 31))) n 0))) (HP z) := by
  have hn' : n < 2 ^ 31 := by omega
  have loop := itr_eq (fun i b => Ev E d zm_X9_players 4 [some (.ref 129), some (.int b), some (.int (nI i))] [] (HP z) K) (fun i b => b ||| (1 <<< (z.1 135 i &&& 31))) 0 n (fun i hi => by
    generalize itr _ i _ = b
    rw [e_X9_players_4]
    simp only [↓e_X9_players_9, ↓e_X9_players_12, ↓e_X9_players_15, ↓e_X9_players_21, ↓e_X9_players_23, ↓e_X9_players_32, g9 o9_129, Nat.reduceAdd, stL, HP_ri i135, hz, zk_i, zk_r, zk_l, zk_n, nI_lt_iff (show i < 2 ^ 31 by omega) hn', hi, ↓reduceIte, nI_1, nI_cl (show i < 2 ^ 31 by omega), in_nI (show i < 6 by omega) (by decide), true_and])
  simp only [↓c_X9_players, ↓e_X9_players_0, ↓e_X9_players_9, ↓e_X9_players_12, ↓e_X9_players_15, ↓e_X9_players_21, ↓e_X9_players_23, ↓e_X9_players_32, zk_i, zk_r, zk_l, zk_n]
  rw [nI_0] at loop
  rw [loop, e_X9_players_4]
  simp only [↓e_X9_players_9, ↓e_X9_players_12, ↓e_X9_players_15, ↓e_X9_players_21, ↓e_X9_players_23, ↓e_X9_players_32, g9 o9_129, Nat.reduceAdd, stL, hz, nI_lt_iff hn' hn', Nat.lt_irrefl, ↓reduceIte]
/-- a stretch of one row into another -/
def mvF (r a q b : Nat) (i : Nat) (f : Nat → Nat → Int32) : Nat → Nat → Int32 := set2 f r (a + i) (f q (b + i))
theorem m_takesKnown (E : zE) (d : Nat) (f : Nat → Nat → Int32) (t : (Nat → Nat → Int64) × Nat) (K : Option Value → zH → Prop) : Cl E d 176 [.ref 129] (HP (f, t)) K = K none (HP (itr (mvF 137 0 130 30) 6 f, t)) := by
  have loop := itr_eq (fun i f => Ev E d zm_X9_takesKnown 2 [some (.ref 129), some (.int (nI i))] [] (HP (f, t)) K) (mvF 137 0 130 30) f 6 (fun i hi => by
    generalize itr _ i _ = f
    have e : (30 : Int32) + nI i = nI (30 + i) := nI_add 30 i
    rw [e_X9_takesKnown_2]
    simp only [↓e_X9_takesKnown_8, ↓e_X9_takesKnown_12, ↓e_X9_takesKnown_17, ↓e_X9_takesKnown_22, ↓e_X9_takesKnown_23, ↓e_X9_takesKnown_29, g9 o9_129, Nat.reduceAdd, e, st_k (show 30 + i < 1083 by omega), HP_wi i137, zk_i, zk_r, lt_lit (n := 6) (x := 6) (by decide) (show i < 2 ^ 31 by omega) (by decide), hi, ↓reduceIte, nI_1, nI_cl (show i < 2 ^ 31 by omega), in_nI (show i < 6 by omega) (by decide), true_and, mvF, Nat.zero_add])
  rw [nI_0] at loop
  simp only [↓c_X9_takesKnown, ↓e_X9_takesKnown_0, ↓e_X9_takesKnown_8, ↓e_X9_takesKnown_12, ↓e_X9_takesKnown_17, ↓e_X9_takesKnown_22, ↓e_X9_takesKnown_23, ↓e_X9_takesKnown_29, zk_i, zk_r, zk_n]
  rw [loop, e_X9_takesKnown_2]
  simp only [↓e_X9_takesKnown_8, ↓e_X9_takesKnown_12, ↓e_X9_takesKnown_17, ↓e_X9_takesKnown_22, ↓e_X9_takesKnown_23, ↓e_X9_takesKnown_29, lt_lit (n := 6) (x := 6) (by decide) (show 6 < 2 ^ 31 by decide) (by decide), Nat.lt_irrefl, ↓reduceIte]
theorem m_takesWishes (E : zE) (d : Nat) (f : Nat → Nat → Int32) (t : (Nat → Nat → Int64) × Nat) (K : Option Value → zH → Prop) : Cl E d 199 [.ref 129] (HP (f, t)) K = K none (HP (itr (mvF 138 0 130 66) 18 f, t)) := by
  have loop := itr_eq (fun i f => Ev E d zm_X9_takesWishes 2 [some (.ref 129), some (.int (nI i))] [] (HP (f, t)) K) (mvF 138 0 130 66) f 18 (fun i hi => by
    generalize itr _ i _ = f
    have e : (66 : Int32) + nI i = nI (66 + i) := nI_add 66 i
    rw [e_X9_takesWishes_2]
    simp only [↓e_X9_takesWishes_8, ↓e_X9_takesWishes_12, ↓e_X9_takesWishes_17, ↓e_X9_takesWishes_22, ↓e_X9_takesWishes_23, ↓e_X9_takesWishes_29, g9 o9_129, Nat.reduceAdd, e, st_k (show 66 + i < 1083 by omega), HP_wi i138, zk_i, zk_r, lt_lit (n := 18) (x := 18) (by decide) (show i < 2 ^ 31 by omega) (by decide), hi, ↓reduceIte, nI_1, nI_cl (show i < 2 ^ 31 by omega), in_nI (show i < 18 by omega) (by decide), true_and, mvF, Nat.zero_add])
  rw [nI_0] at loop
  simp only [↓c_X9_takesWishes, ↓e_X9_takesWishes_0, ↓e_X9_takesWishes_8, ↓e_X9_takesWishes_12, ↓e_X9_takesWishes_17, ↓e_X9_takesWishes_22, ↓e_X9_takesWishes_23, ↓e_X9_takesWishes_29, zk_i, zk_r, zk_n]
  rw [loop, e_X9_takesWishes_2]
  simp only [↓e_X9_takesWishes_8, ↓e_X9_takesWishes_12, ↓e_X9_takesWishes_17, ↓e_X9_takesWishes_22, ↓e_X9_takesWishes_23, ↓e_X9_takesWishes_29, lt_lit (n := 18) (x := 18) (by decide) (show 18 < 2 ^ 31 by decide) (by decide), Nat.lt_irrefl, ↓reduceIte]
theorem m_putsKnown (E : zE) (d : Nat) (f : Nat → Nat → Int32) (t : (Nat → Nat → Int64) × Nat) (K : Option Value → zH → Prop) : Cl E d 177 [.ref 129] (HP (f, t)) K = K none (HP (itr (mvF 130 30 137 0) 6 f, t)) := by
  have loop := itr_eq (fun i f => Ev E d zm_X9_putsKnown 2 [some (.ref 129), some (.int (nI i))] [] (HP (f, t)) K) (mvF 130 30 137 0) f 6 (fun i hi => by
    generalize itr _ i _ = f
    have e : (30 : Int32) + nI i = nI (30 + i) := nI_add 30 i
    rw [e_X9_putsKnown_2]
    simp only [↓e_X9_putsKnown_8, ↓e_X9_putsKnown_12, ↓e_X9_putsKnown_20, ↓e_X9_putsKnown_22, ↓e_X9_putsKnown_23, ↓e_X9_putsKnown_29, g9 o9_129, Nat.reduceAdd, e, HP_ri i137, HP_wi i130, zk_i, zk_r, lt_lit (n := 6) (x := 6) (by decide) (show i < 2 ^ 31 by omega) (by decide), hi, ↓reduceIte, nI_1, nI_cl (show i < 2 ^ 31 by omega), nI_cl (show 30 + i < 2 ^ 31 by omega), in_nI (show i < 6 by omega) (by decide), in_nI (show 30 + i < 1083 by omega) (by decide), true_and, mvF, Nat.zero_add])
  rw [nI_0] at loop
  simp only [↓c_X9_putsKnown, ↓e_X9_putsKnown_0, ↓e_X9_putsKnown_8, ↓e_X9_putsKnown_12, ↓e_X9_putsKnown_20, ↓e_X9_putsKnown_22, ↓e_X9_putsKnown_23, ↓e_X9_putsKnown_29, zk_i, zk_r, zk_n]
  rw [loop, e_X9_putsKnown_2]
  simp only [↓e_X9_putsKnown_8, ↓e_X9_putsKnown_12, ↓e_X9_putsKnown_20, ↓e_X9_putsKnown_22, ↓e_X9_putsKnown_23, ↓e_X9_putsKnown_29, lt_lit (n := 6) (x := 6) (by decide) (show 6 < 2 ^ 31 by decide) (by decide), Nat.lt_irrefl, ↓reduceIte]
theorem m_copies (E : zE) (d : Nat) {a b : Nat} (ha : a ≤ 722) (hb : b ≤ 722) (f : Nat → Nat → Int32) (t : (Nat → Nat → Int64) × Nat) (K : Option Value → zH → Prop) : Cl E d 218 [.ref 129, .int (nI a), .int (nI b)] (HP (f, t)) K = K none (HP (itr (mvF 130 a 130 b) 361 f, t)) := by
  have loop := itr_eq (fun i f => Ev E d zm_X9_copies 2 [some (.ref 129), some (.int (nI a)), some (.int (nI b)), some (.int (nI i))] [] (HP (f, t)) K) (mvF 130 a 130 b) f 361 (fun i hi => by
    generalize itr _ i _ = f
    rw [e_X9_copies_2]
    simp only [↓e_X9_copies_9, ↓e_X9_copies_13, ↓e_X9_copies_20, ↓e_X9_copies_24, ↓e_X9_copies_25, ↓e_X9_copies_31, g9 o9_129, Nat.reduceAdd, nI_add, st_k (show b + i < 1083 by omega), HP_wi i130, zk_i, zk_r, lt_lit (n := 361) (x := 361) (by decide) (show i < 2 ^ 31 by omega) (by decide), hi, ↓reduceIte, nI_1, nI_cl (show a + i < 2 ^ 31 by omega), in_nI (show a + i < 1083 by omega) (by decide), true_and, mvF])
  rw [nI_0] at loop
  simp only [↓c_X9_copies, ↓e_X9_copies_0, ↓e_X9_copies_9, ↓e_X9_copies_13, ↓e_X9_copies_20, ↓e_X9_copies_24, ↓e_X9_copies_25, ↓e_X9_copies_31, zk_i, zk_r, zk_n]
  rw [loop, e_X9_copies_2]
  simp only [↓e_X9_copies_9, ↓e_X9_copies_13, ↓e_X9_copies_20, ↓e_X9_copies_24, ↓e_X9_copies_25, ↓e_X9_copies_31, lt_lit (n := 361) (x := 361) (by decide) (show 361 < 2 ^ 31 by decide) (by decide), Nat.lt_irrefl, ↓reduceIte]
theorem m_minutesOf (E : zE) (d : Nat) (p : Int32) {n : Nat} (hn : n ≤ 7) {z : zS} (hz : z.1 130 106 = nI n) (K : Option Value → zH → Prop) : Cl E (d + 1) 182 [.ref 129, .int p] (HP z) K = K (some (.int (itr (fun i b => b + (if bitC (z.1 130 (90 + 2 * i + 1)) p = true then z.1 130 (90 + 2 * i) else 0)) n 0))) (HP z) := by
  have hn' : n < 2 ^ 31 := by omega
  have loop := itr_eq (fun i b => Ev E (d + 1) zm_X9_minutesOf 4 [some (.ref 129), some (.int p), some (.int b), some (.int (nI i))] [] (HP z) K) (fun i b => b + (if bitC (z.1 130 (90 + 2 * i + 1)) p = true then z.1 130 (90 + 2 * i) else 0)) 0 n (fun i hi => by
    generalize itr _ i _ = b
    have e : (90 : Int32) + 2 * nI i = nI (90 + 2 * i) := by
      rw [show (90 : Int32) = nI 90 from by decide, show (2 : Int32) = nI 2 from by decide, nI_mul, nI_add]
    rw [e_X9_minutesOf_4]
    simp only [↓e_X9_minutesOf_9, ↓e_X9_minutesOf_12, ↓e_X9_minutesOf_15, ↓e_X9_minutesOf_22, ↓e_X9_minutesOf_25, ↓e_X9_minutesOf_29, ↓e_X9_minutesOf_36, ↓e_X9_minutesOf_39, ↓e_X9_minutesOf_40, ↓e_X9_minutesOf_48, g9 o9_129, v9 o9_129, Nat.reduceAdd, stL, e, st_k (show 90 + 2 * i < 1083 by omega), m_isIn E d p (show i < 7 by omega), hz, zps_s, bI_0, zk_i, zk_r, zk_l, zk_n, nI_lt_iff (show i < 2 ^ 31 by omega) hn', hi, ↓reduceIte, nI_1]
    cases bitC (z.1 130 (90 + 2 * i + 1)) p <;> simp)
  simp only [↓c_X9_minutesOf, ↓e_X9_minutesOf_0, ↓e_X9_minutesOf_9, ↓e_X9_minutesOf_12, ↓e_X9_minutesOf_15, ↓e_X9_minutesOf_22, ↓e_X9_minutesOf_25, ↓e_X9_minutesOf_29, ↓e_X9_minutesOf_36, ↓e_X9_minutesOf_39, ↓e_X9_minutesOf_40, ↓e_X9_minutesOf_48, zk_i, zk_r, zk_l, zk_n]
  rw [nI_0] at loop
  rw [loop, e_X9_minutesOf_4]
  simp only [↓e_X9_minutesOf_9, ↓e_X9_minutesOf_12, ↓e_X9_minutesOf_15, ↓e_X9_minutesOf_22, ↓e_X9_minutesOf_25, ↓e_X9_minutesOf_29, ↓e_X9_minutesOf_36, ↓e_X9_minutesOf_39, ↓e_X9_minutesOf_40, ↓e_X9_minutesOf_48, g9 o9_129, Nat.reduceAdd, stL, hz, nI_lt_iff hn' hn', Nat.lt_irrefl, ↓reduceIte]
