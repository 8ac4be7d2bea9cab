/-! READ: numbers, stops and words, in the class -/
section RN
variable {tx : Nat → Int32} {nl : Nat}
def Num (tx : Nat → Int32) (i lo hb n e : Nat) : Prop := lo ≤ n ∧ n < hb ∧ n ≤ 99 ∧ ∃ s, Tok tx i s e 2 (nI n)
def NumF (tx : Nat → Int32) (i lo hb s : Nat) : Prop := ∃ e k v, Tok tx i s e k v ∧ ¬ (k = 2 ∧ ∃ n, n ≤ 99 ∧ v = nI n ∧ lo ≤ n ∧ n < hb)
def StpS (tx : Nat → Int32) (i i' : Nat) : Prop := ∃ s v, Tok tx i s i' 3 v
def StpF (tx : Nat → Int32) (i s : Nat) : Prop := ∃ e k v, Tok tx i s e k v ∧ ¬ k = 3
def NumsS (tx : Nat → Int32) : List (Nat × Nat) → Nat → List Nat → Nat → Prop
  | [], i, vs, i' => vs = [] ∧ StpS tx i i'
  | b :: bs, i, vs, i' => ∃ n e ws, vs = n :: ws ∧ Num tx i b.1 b.2 n e ∧ NumsS tx bs e ws i'
def NumsF (tx : Nat → Int32) : List (Nat × Nat) → Nat → Nat → Prop
  | [], i, s => StpF tx i s
  | b :: bs, i, s => NumF tx i b.1 b.2 s ∨ ∃ n e, Num tx i b.1 b.2 n e ∧ NumsF tx bs e s
theorem tok_v {i s e : Nat} {v : Int32} (h : Tok tx i s e 2 v) : ∃ n, n ≤ 99 ∧ v = nI n := by
  obtain ⟨-, -, -, h | h | h | h⟩ := h
  · exact absurd h.2.2 (by decide)
  · exact absurd h.2.2.2.2 (by decide)
  · obtain ⟨-, -, h1, h2, h3, ⟨h4, -, h5⟩ | ⟨-, h5⟩⟩ := h
    · rw [h5]
      unfold vlN
      by_cases q : e = s + 1
      · rw [if_pos q]
        obtain ⟨n, a, b⟩ := v1_lt h1
        exact ⟨n, by omega, b⟩
      · rw [if_neg q]
        exact v2_lt h1 (h2.1 (s + 1) (by omega) (by omega))
    · exact absurd h5 (by decide)
  · have := h.2.2.2.2
    split at this
    · exact absurd this (by decide)
    · exact absurd this (by decide)
theorem nm_lo {n lo : Nat} (hn : n ≤ 99) (hl : lo ≤ 100) : (nI n < nI lo) = (n < lo) := nI_lt_iff (by omega) (by omega)
theorem nm_hi {n hb : Nat} (hn : n ≤ 99) (hh : hb ≤ 100) : (nI hb - 1 < nI n) = (hb ≤ n) := by
  rw [iI_n n, iI_n hb, show (1 : Int32) = iI 1 from by decide, iI_sub, iI_lt (by omega) (by omega) (by omega) (by omega)]
  exact propext ⟨fun h => by omega, fun h => by omega⟩
theorem x_isNumber (E : zE) (d : Nat) (z : zS) (lo hi : Int32) (K : Option Value → zH → Prop) : Cl E d 50 [.ref 24, .int lo, .int hi] (HP z) K = K (some (.int (bI (decide (z.1 24 5 = 2) && (!decide (z.1 24 6 < lo) && !decide (hi < z.1 24 6)))))) (HP z) := by
  by_cases h1 : z.1 24 5 = 2
  · by_cases h2 : z.1 24 6 < lo
    · simp only [↓c_X5_isNumber, ↓e_X5_isNumber_0, ↓e_X5_isNumber_4, ↓e_X5_isNumber_8, ↓e_X5_isNumber_12, ↓e_X5_isNumber_16, ↓e_X5_isNumber_20, ↓e_X5_isNumber_24, ↓e_X5_isNumber_28, ↓e_X5_isNumber_29, g5 o5_24, h1, h2, decide_true, Bool.not_true, Bool.false_and, Bool.and_false, bI_f, true_or, true_and, zk_i, zk_r, zk_n, ↓reduceIte]
    · by_cases h3 : hi < z.1 24 6
      · simp only [↓c_X5_isNumber, ↓e_X5_isNumber_0, ↓e_X5_isNumber_4, ↓e_X5_isNumber_8, ↓e_X5_isNumber_12, ↓e_X5_isNumber_16, ↓e_X5_isNumber_20, ↓e_X5_isNumber_24, ↓e_X5_isNumber_28, ↓e_X5_isNumber_29, g5 o5_24, h1, h2, h3, decide_true, decide_false, Bool.not_true, Bool.and_false, bI_f, true_or, true_and, zk_i, zk_r, zk_n, ↓reduceIte]
      · simp only [↓c_X5_isNumber, ↓e_X5_isNumber_0, ↓e_X5_isNumber_4, ↓e_X5_isNumber_8, ↓e_X5_isNumber_12, ↓e_X5_isNumber_16, ↓e_X5_isNumber_20, ↓e_X5_isNumber_24, ↓e_X5_isNumber_28, ↓e_X5_isNumber_29, g5 o5_24, h1, h2, h3, decide_true, decide_false, Bool.not_false, Bool.and_true, bI_t, or_true, true_and, zk_i, zk_r, zk_n, ↓reduceIte]
  · simp only [↓c_X5_isNumber, ↓e_X5_isNumber_0, ↓e_X5_isNumber_4, ↓e_X5_isNumber_8, ↓e_X5_isNumber_12, ↓e_X5_isNumber_16, ↓e_X5_isNumber_20, ↓e_X5_isNumber_24, ↓e_X5_isNumber_28, ↓e_X5_isNumber_29, g5 o5_24, h1, decide_false, Bool.false_and, bI_f, true_or, true_and, zk_i, zk_r, zk_n, ↓reduceIte]
/-- what isNumber says of a token -/
theorem nm_tok {i s e lo hb : Nat} {k v : Int32} (hl : lo ≤ 100) (hh : hb ≤ 100) (h : Tok tx i s e k v) : (∃ n, (decide (k = 2) && (!decide (v < nI lo) && !decide (nI hb - 1 < v))) = true ∧ k = 2 ∧ v = nI n ∧ Num tx i lo hb n e) ∨ ((decide (k = 2) && (!decide (v < nI lo) && !decide (nI hb - 1 < v))) = false ∧ NumF tx i lo hb s) := by
  by_cases hk : k = 2
  · subst hk
    obtain ⟨n, n1, n2⟩ := tok_v h
    subst n2
    have d1 : decide (nI n < nI lo) = decide (n < lo) := decide_eq_decide.mpr (by rw [nm_lo n1 hl])
    have d2 : decide (nI hb - 1 < nI n) = decide (hb ≤ n) := decide_eq_decide.mpr (by rw [nm_hi n1 hh])
    rw [d1, d2]
    by_cases q : lo ≤ n ∧ n < hb
    · refine Or.inl ⟨n, ?_, rfl, rfl, q.1, q.2, n1, s, h⟩
      rw [decide_eq_false (show ¬ n < lo by omega), decide_eq_false (show ¬ hb ≤ n by omega)]
      rfl
    · refine Or.inr ⟨?_, e, 2, nI n, h, fun ⟨_, m, m1, m2, m3, m4⟩ => ?_⟩
      · by_cases a : n < lo
        · rw [decide_eq_true a]
          rfl
        · rw [decide_eq_true (show hb ≤ n by omega), Bool.not_true, Bool.and_false, Bool.and_false]
      · have := (nI_eq (show n < 2 ^ 31 by omega) (show m < 2 ^ 31 by omega)).mp m2
        omega
  · refine Or.inr ⟨by rw [decide_eq_false hk, Bool.false_and], e, k, v, h, fun h => hk h.1⟩
theorem x_number (E : zE) (d : Nat) {f : Nat → Nat → Int32} {t : (Nat → Nat → Int64) × Nat} (ht : t.2 = 18) (hx : RX f tx nl) {i : Nat} (hi : i ≤ nl) (h3 : f 24 3 = nI i) {r m p : Nat} (hr : isI r m) (hm : m < 2 ^ 31) (hp : p < m) (r24 : r ≠ 24) {lo hb : Nat} (hl : lo ≤ 100) (hh : hb ≤ 100) {lv hv : Int32} (el : lv = nI lo) (eh : hv = nI hb - 1) : Hr E (d + 3) 49 [.ref 24, .ref r, .int (nI p), .int lv, .int hv] (f, t) (fun v z' => z'.2 = t ∧ ((v = some (.int 1) ∧ ∃ n e, Num tx i lo hb n e ∧ e ≤ nl ∧ z'.1 24 3 = nI e ∧ Fr (set2 f r p (nI n)) z'.1) ∨ (v = some (.int 0) ∧ ∃ s, NumF tx i lo hb s ∧ s ≤ nl ∧ z'.1 24 4 = nI s ∧ Fr f z'.1))) := by
  subst el
  subst eh
  obtain ⟨v, z1, ⟨e1, e2, e3, s, e, e4, e5, e6, e7, e8⟩, k⟩ := Hr_use (x_step E d (t := t) ht hx hi h3)
  subst e1
  obtain ⟨f1, t1⟩ := z1
  dsimp only at e2 e3 e4 e7 e8
  subst e2
  have isn := x_isNumber E (d + 2) (f1, t1) (nI lo) (nI hb - 1)
  dsimp only at isn
  have pn : (nI p < 0) = False := eq_false (nI_pos (by omega))
  rcases nm_tok hl hh e4 with ⟨n, q1, q2, q3, q4⟩ | ⟨q1, q2⟩
  · rw [q1] at isn
    obtain ⟨f2, hf2⟩ : ∃ g : Nat → Nat → Int32, g = set2 f1 r p (nI n) := ⟨_, rfl⟩
    have w := wi_k hr hp hm (f1, t1) (nI n)
    dsimp only at w
    rw [← hf2] at w
    refine Hr_of (z' := (f2, t1)) (r := some (.int 1)) (fun K => ?_) ⟨rfl, Or.inl ⟨rfl, n, e, q4, e6, ?_, ?_⟩⟩
    · simp only [↓c_X5_number, ↓e_X5_number_0, ↓e_X5_number_4, ↓e_X5_number_11, ↓e_X5_number_14, ↓e_X5_number_18, ↓e_X5_number_21, ↓e_X5_number_24, ↓e_X5_number_26, ↓e_X5_number_32, ↓e_X5_number_33, v5 o5_24, g5 o5_24, k, isn, HP_al hr, pn, nI_lt_iff (show p < 2 ^ 31 by omega) hm, hp, q3, w, zps_s, zps_n, bI_t, i01, or_true, true_and, zk_i, zk_r, zk_n, ↓reduceIte]
    · show f2 24 3 = nI e
      rw [hf2, set2_a (fun e => r24 e.symm)]
      exact e7
    · refine ⟨fun a ha => ?_, ?_⟩
      · show f2 a = set2 f r p (nI n) a
        funext j
        rw [hf2]
        unfold set2
        rw [e3.1 a ha]
      · show f2 24 2 = set2 f r p (nI n) 24 2
        rw [hf2, set2_a (fun e => r24 e.symm), set2_a (fun e => r24 e.symm)]
        exact e3.2
  · rw [q1] at isn
    refine Hr_of (z' := (f1, t1)) (r := some (.int 0)) (fun K => ?_) ⟨rfl, Or.inr ⟨rfl, s, q2, e5, e8, e3⟩⟩
    simp only [↓c_X5_number, ↓e_X5_number_0, ↓e_X5_number_4, ↓e_X5_number_11, ↓e_X5_number_14, ↓e_X5_number_18, ↓e_X5_number_21, ↓e_X5_number_24, ↓e_X5_number_26, ↓e_X5_number_32, ↓e_X5_number_33, v5 o5_24, k, isn, zps_s, zps_n, bI_f, true_or, true_and, zk_i, zk_r, zk_n, ↓reduceIte]
theorem x_stop (E : zE) (d : Nat) {f : Nat → Nat → Int32} {t : (Nat → Nat → Int64) × Nat} (ht : t.2 = 18) (hx : RX f tx nl) {i : Nat} (hi : i ≤ nl) (h3 : f 24 3 = nI i) : Hr E (d + 3) 51 [.ref 24] (f, t) (fun v z' => z'.2 = t ∧ ((v = some (.int 1) ∧ ∃ e, StpS tx i e ∧ e ≤ nl ∧ z'.1 24 3 = nI e ∧ Fr f z'.1) ∨ (v = some (.int 0) ∧ ∃ s, StpF tx i s ∧ s ≤ nl ∧ z'.1 24 4 = nI s ∧ Fr f z'.1))) := by
  obtain ⟨v, z1, ⟨e1, e2, e3, s, e, e4, e5, e6, e7, e8⟩, k⟩ := Hr_use (x_step E d (t := t) ht hx hi h3)
  subst e1
  obtain ⟨f1, t1⟩ := z1
  dsimp only at e2 e3 e4 e7 e8
  subst e2
  by_cases q : f1 24 5 = 3
  · refine Hr_of (z' := (f1, t1)) (r := some (.int 1)) (fun K => ?_) ⟨rfl, Or.inl ⟨rfl, e, ⟨s, _, by rw [q] at e4; exact e4⟩, e6, e7, e3⟩⟩
    simp only [↓c_X5_stop, ↓e_X5_stop_0, ↓e_X5_stop_4, ↓e_X5_stop_8, ↓e_X5_stop_12, ↓e_X5_stop_16, ↓e_X5_stop_17, v5 o5_24, g5 o5_24, k, q, zps_s, zps_n, or_true, true_and, zk_i, zk_r, zk_n, ↓reduceIte]
  · refine Hr_of (z' := (f1, t1)) (r := some (.int 0)) (fun K => ?_) ⟨rfl, Or.inr ⟨rfl, s, ⟨e, _, _, e4, q⟩, e5, e8, e3⟩⟩
    simp only [↓c_X5_stop, ↓e_X5_stop_0, ↓e_X5_stop_4, ↓e_X5_stop_8, ↓e_X5_stop_12, ↓e_X5_stop_16, ↓e_X5_stop_17, v5 o5_24, g5 o5_24, k, q, zps_s, zps_n, true_or, true_and, zk_i, zk_r, zk_n, ↓reduceIte]
/-- nothing but the reader and its draft -/
def GF (f f' : Nat → Nat → Int32) : Prop := ∀ a, a < 24 ∨ 36 < a → f' a = f a
theorem GF_r (f : Nat → Nat → Int32) : GF f f := fun _ _ => rfl
theorem GF_f {f f' : Nat → Nat → Int32} (h : Fr f f') : GF f f' := fun a ha => h.1 a (by omega)
theorem GF_t {f g k : Nat → Nat → Int32} (h : GF f g) (h' : GF g k) : GF f k := fun a ha => by rw [h' a ha, h a ha]
theorem GF_w {f f' : Nat → Nat → Int32} {r p : Nat} {x : Int32} (hr : 24 < r ∧ r < 37) (h : GF (set2 f r p x) f') : GF f f' := fun a ha => by rw [h a ha, set2_a (by omega)]
end RN
