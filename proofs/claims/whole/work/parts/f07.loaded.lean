/-! READ: a token is always there, and one alone; the loaded token, in the reference -/
section F7
variable {tx : Nat → Int32} {nl : Nat}
theorem seg_ex (g : Int32 → Bool) (hg : g (-1) = false) (ht : ∀ j, nl ≤ j → tx j = -1) : ∀ n i, i + n = nl → ∃ s, i ≤ s ∧ s ≤ nl ∧ (∀ j, i ≤ j → j < s → g (tx j) = true) ∧ g (tx s) = false
  | 0, i, h => ⟨i, Nat.le_refl i, by omega, fun j h1 h2 => by omega, by rw [ht i (by omega)]; exact hg⟩
  | n + 1, i, h => by
    cases hb : g (tx i) with
    | false => exact ⟨i, Nat.le_refl i, by omega, fun j h1 h2 => by omega, hb⟩
    | true =>
      obtain ⟨s, h1, h2, h3, h4⟩ := seg_ex g hg ht n (i + 1) (by omega)
      refine ⟨s, by omega, h2, fun j a b => ?_, h4⟩
      by_cases e : j = i
      · subst e
        exact hb
      · exact h3 j (by omega) b
theorem tok_ex (ht : ∀ j, nl ≤ j → tx j = -1) {i : Nat} (hi : i ≤ nl) : ∃ s e k v, Tok tx i s e k v := by
  obtain ⟨s, h1, h2, h3', h4'⟩ := seg_ex (nl := nl) (tx := tx) (fun x => decide (x = 32)) (by decide) ht (nl - i) i (by omega)
  have h4 : ¬ tx s = 32 := of_decide_eq_false h4'
  have h3 : ∀ j, i ≤ j → j < s → tx j = 32 := fun j a b => of_decide_eq_true (h3' j a b)
  by_cases hm : tx s = -1
  · exact ⟨s, s, 0, 0, h1, h3, h4, Or.inl ⟨hm, rfl, rfl⟩⟩
  · cases hl : ltB (tx s) with
    | true =>
      obtain ⟨e, a1, a2, a3, a4⟩ := seg_ex (nl := nl) (tx := tx) ltB lt_m ht (nl - s) s (by omega)
      have se : s ≠ e := fun q => by
        rw [← q, hl] at a4
        exact absurd a4 (by decide)
      exact ⟨s, e, 1, 0, h1, h3, h4, Or.inr (Or.inl ⟨hm, hl, ⟨a3, a4⟩, by omega, rfl⟩)⟩
    | false =>
      cases hf : fgB (tx s) with
      | true =>
        obtain ⟨e, a1, a2, a3, a4⟩ := seg_ex (nl := nl) (tx := tx) fgB fg_m ht (nl - s) s (by omega)
        have se : s ≠ e := fun q => by
          rw [← q, hf] at a4
          exact absurd a4 (by decide)
        by_cases q : e ≤ s + 2
        · exact ⟨s, e, 2, vlN tx s e, h1, h3, h4, Or.inr (Or.inr (Or.inl ⟨hm, hl, hf, ⟨a3, a4⟩, by omega, Or.inl ⟨q, rfl, rfl⟩⟩))⟩
        · exact ⟨s, e, 4, 0, h1, h3, h4, Or.inr (Or.inr (Or.inl ⟨hm, hl, hf, ⟨a3, a4⟩, by omega, Or.inr ⟨by omega, rfl⟩⟩))⟩
      | false => exact ⟨s, s + 1, if tx s = 59 then 3 else 4, 0, h1, h3, h4, Or.inr (Or.inr (Or.inr ⟨hm, hl, hf, rfl, rfl⟩))⟩
theorem seg_det {g : Int32 → Bool} {s e e' : Nat} (h : sgP tx g s e) (h' : sgP tx g s e') (a : s ≤ e) (b : s ≤ e') : e' = e := by
  rcases Nat.lt_trichotomy e e' with q | q | q
  · have := h'.1 e a q
    rw [h.2] at this
    exact absurd this (by decide)
  · exact q.symm
  · have := h.1 e' b q
    rw [h'.2] at this
    exact absurd this (by decide)
theorem tok_c {i s e : Nat} {k v : Int32} (h : Tok tx i s e k v) : (tx s = -1 → e = s ∧ k = 0) ∧ (¬ tx s = -1 → ltB (tx s) = true → sgP tx ltB s e ∧ s < e ∧ k = 1) ∧ (¬ tx s = -1 → ltB (tx s) = false → fgB (tx s) = true → sgP tx fgB s e ∧ s < e ∧ ((e ≤ s + 2 ∧ k = 2 ∧ v = vlN tx s e) ∨ (s + 2 < e ∧ k = 4))) ∧ (¬ tx s = -1 → ltB (tx s) = false → fgB (tx s) = false → e = s + 1 ∧ k = if tx s = 59 then 3 else 4) := by
  obtain ⟨-, -, -, h⟩ := h
  refine ⟨fun a => ?_, fun a b => ?_, fun a b c => ?_, fun a b c => ?_⟩
  · rcases h with h | h | h | h
    · exact ⟨h.2.1, h.2.2⟩
    · exact absurd a h.1
    · exact absurd a h.1
    · exact absurd a h.1
  · rcases h with h | h | h | h
    · exact absurd h.1 a
    · exact ⟨h.2.2.1, h.2.2.2.1, h.2.2.2.2⟩
    · have := h.2.1
      rw [b] at this
      exact absurd this (by decide)
    · have := h.2.1
      rw [b] at this
      exact absurd this (by decide)
  · rcases h with h | h | h | h
    · exact absurd h.1 a
    · have := h.2.1
      rw [b] at this
      exact absurd this (by decide)
    · exact h.2.2.2
    · have := h.2.2.1
      rw [c] at this
      exact absurd this (by decide)
  · rcases h with h | h | h | h
    · exact absurd h.1 a
    · have := h.2.1
      rw [b] at this
      exact absurd this (by decide)
    · have := h.2.2.1
      rw [c] at this
      exact absurd this (by decide)
    · exact ⟨h.2.2.2.1, h.2.2.2.2⟩
theorem tok_det {i s e s' e' : Nat} {k v k' v' : Int32} (h : Tok tx i s e k v) (h' : Tok tx i s' e' k' v') : s' = s ∧ e' = e ∧ k' = k ∧ (k = 2 → v' = v) := by
  have es : s' = s := by
    rcases Nat.lt_trichotomy s s' with q | q | q
    · exact absurd (h'.2.1 s h.1 q) h.2.2.1
    · exact q.symm
    · exact absurd (h.2.1 s' h'.1 q) h'.2.2.1
  subst es
  obtain ⟨a1, a2, a3, a4⟩ := tok_c h
  obtain ⟨b1, b2, b3, b4⟩ := tok_c h'
  refine ⟨rfl, ?_⟩
  by_cases hm : tx s' = -1
  · obtain ⟨c1, c2⟩ := a1 hm
    obtain ⟨d1, d2⟩ := b1 hm
    exact ⟨by omega, by rw [c2, d2], fun h => by rw [c2] at h; exact absurd h (by decide)⟩
  · cases hl : ltB (tx s') with
    | true =>
      obtain ⟨c1, c2, c3⟩ := a2 hm hl
      obtain ⟨d1, d2, d3⟩ := b2 hm hl
      exact ⟨seg_det c1 d1 (by omega) (by omega), by rw [c3, d3], fun h => by rw [c3] at h; exact absurd h (by decide)⟩
    | false =>
      cases hf : fgB (tx s') with
      | true =>
        obtain ⟨c1, c2, c3⟩ := a3 hm hl hf
        obtain ⟨d1, d2, d3⟩ := b3 hm hl hf
        have ee := seg_det c1 d1 (by omega) (by omega)
        subst ee
        rcases c3 with ⟨x1, x2, x3⟩ | ⟨x1, x2⟩
        · rcases d3 with ⟨y1, y2, y3⟩ | ⟨y1, y2⟩
          · exact ⟨rfl, by rw [x2, y2], fun _ => by rw [x3, y3]⟩
          · omega
        · rcases d3 with ⟨y1, y2, y3⟩ | ⟨y1, y2⟩
          · omega
          · exact ⟨rfl, by rw [x2, y2], fun h => by rw [x2] at h; exact absurd h (by decide)⟩
      | false =>
        obtain ⟨c1, c2⟩ := a4 hm hl hf
        obtain ⟨d1, d2⟩ := b4 hm hl hf
        refine ⟨by omega, by rw [c2, d2], fun h => ?_⟩
        rw [h] at c2
        split at c2
        · exact absurd c2 (by decide)
        · exact absurd c2 (by decide)
theorem tok_nl (ht : ∀ j, nl ≤ j → tx j = -1) {i s e : Nat} {k v : Int32} (hi : i ≤ nl) (h : Tok tx i s e k v) : s ≤ nl ∧ e ≤ nl := by
  have hs : s ≤ nl := Classical.byContradiction (fun q => by
    have := h.2.1 (s - 1) (by omega) (by omega)
    rw [ht (s - 1) (by omega)] at this
    exact absurd this (by decide))
  refine ⟨hs, ?_⟩
  obtain ⟨a1, a2, a3, a4⟩ := tok_c h
  by_cases hm : tx s = -1
  · have := (a1 hm).1
    omega
  · have hs' : s < nl := Classical.byContradiction (fun q => hm (ht s (by omega)))
    cases hl : ltB (tx s) with
    | true =>
      obtain ⟨c1, c2, c3⟩ := a2 hm hl
      refine Classical.byContradiction (fun q => ?_)
      have := c1.1 (e - 1) (by omega) (by omega)
      rw [ht (e - 1) (by omega), lt_m] at this
      exact absurd this (by decide)
    | false =>
      cases hf : fgB (tx s) with
      | true =>
        obtain ⟨c1, c2, c3⟩ := a3 hm hl hf
        refine Classical.byContradiction (fun q => ?_)
        have := c1.1 (e - 1) (by omega) (by omega)
        rw [ht (e - 1) (by omega), fg_m] at this
        exact absurd this (by decide)
      | false =>
        have := (a4 hm hl hf).1
        omega
theorem num_nl (ht : ∀ j, nl ≤ j → tx j = -1) {i lo hb n e : Nat} (hi : i ≤ nl) (h : Num tx i lo hb n e) : e ≤ nl := by
  obtain ⟨-, -, -, s, h⟩ := h
  exact (tok_nl ht hi h).2
theorem stp_nl (ht : ∀ j, nl ≤ j → tx j = -1) {i e : Nat} (hi : i ≤ nl) (h : StpS tx i e) : e ≤ nl := by
  obtain ⟨s, v, h⟩ := h
  exact (tok_nl ht hi h).2
/-- the token from place i is loaded -/
def LT (tx : Nat → Int32) (f : Nat → Nat → Int32) (i : Nat) : Prop := ∃ s e k v, Tok tx i s e k v ∧ f 129 4 = nI e ∧ f 129 5 = nI s ∧ RK k v (f 129 6) (f 129 7)
theorem LT_t {f : Nat → Nat → Int32} {i s e : Nat} {k v : Int32} (h : LT tx f i) (hT : Tok tx i s e k v) : f 129 4 = nI e ∧ f 129 5 = nI s ∧ RK k v (f 129 6) (f 129 7) := by
  obtain ⟨s', e', k', v', h0, h1, h2, h3⟩ := h
  obtain ⟨d1, d2, d3, d4⟩ := tok_det hT h0
  subst d1
  subst d2
  subst d3
  refine ⟨h1, h2, ?_⟩
  rcases h3 with ⟨c1, c2⟩ | c
  · exact Or.inl ⟨c1, fun h => (c2 h).trans (d4 h)⟩
  · exact Or.inr c
theorem LT_c {f f' : Nat → Nat → Int32} {i : Nat} (h : f' 129 = f 129) (hL : LT tx f i) : LT tx f' i := by
  unfold LT
  rw [h]
  exact hL
theorem LT_2 {f : Nat → Nat → Int32} {i lo hb n e : Nat} (h : LT tx f i) (hN : Num tx i lo hb n e) : f 129 6 = 2 ∧ f 129 7 = nI n := by
  obtain ⟨-, -, -, s, hT⟩ := hN
  obtain ⟨-, -, q⟩ := LT_t h hT
  rcases q with ⟨b1, b2⟩ | ⟨b1, -⟩
  · exact ⟨b1, b2 rfl⟩
  · exact absurd b1 (by decide)
theorem LT_3 {f : Nat → Nat → Int32} {i e : Nat} (h : LT tx f i) (hS : StpS tx i e) : f 129 6 = 3 ∧ f 129 4 = nI e := by
  obtain ⟨s, v, hT⟩ := hS
  obtain ⟨q4, -, q⟩ := LT_t h hT
  rcases q with ⟨b1, b2⟩ | ⟨b1, -⟩
  · exact ⟨b1, q4⟩
  · exact absurd b1 (by decide)
theorem LT_n {f : Nat → Nat → Int32} {i s : Nat} (h : LT tx f i) (hS : StpF tx i s) : ¬ f 129 6 = 3 ∧ f 129 5 = nI s := by
  obtain ⟨e, k, v, hT, hk⟩ := hS
  obtain ⟨-, q5, q⟩ := LT_t h hT
  refine ⟨fun h3 => ?_, q5⟩
  rcases q with ⟨b1, b2⟩ | ⟨b1, b2, -⟩
  · exact hk (b1.symm.trans h3)
  · rw [b2] at h3
    exact absurd h3 (by decide)
theorem m_tokL (E : zE) (d : Nat) {f : Nat → Nat → Int32} {t : (Nat → Nat → Int64) × Nat} (hx : RM f tx nl) {i : Nat} (hi : i ≤ nl) (h4 : f 129 4 = nI i) : Hr E (d + 1) 137 [.ref 129] (f, t) (fun r z' => r = none ∧ z'.2 = t ∧ FrM f z'.1 ∧ LT tx z'.1 i) := by
  obtain ⟨s, e, k, v, hT⟩ := tok_ex hx.2.2.2 hi
  have := (tok_nl hx.2.2.2 hi hT).2
  have h240 := hx.2.1
  obtain ⟨r, z1, ⟨e1, e2, e3, e4, e5, e6⟩, kk⟩ := Hr_use (m_token E d (t := t) hx hT (by omega) h4)
  exact Hr_of kk ⟨e1, e2, e3, s, e, k, v, hT, e4, e5, e6⟩
theorem m_rnLG (E : zE) (d : Nat) {f : Nat → Nat → Int32} {t : (Nat → Nat → Int64) × Nat} (hx : RM f tx nl) {i n e lo hb : Nat} {lv hv : Int32} (hi : i ≤ nl) (hL : LT tx f i) (h8 : f 129 8 = -1) (hN : Num tx i lo hb n e) (hh : hb ≤ 100) (el : lv = nI lo) (eh : hv = nI hb - 1) : Hr E (d + 2) 141 [.ref 129, .int lv, .int hv] (f, t) (fun r z' => r = some (.int (nI n)) ∧ z'.2 = t ∧ FrM f z'.1 ∧ LT tx z'.1 e ∧ z'.1 129 8 = -1) := by
  have he := num_nl hx.2.2.2 hi hN
  obtain ⟨n1, n2, n3, s, hT⟩ := hN
  obtain ⟨q4, q5, q6⟩ := LT_t hL hT
  obtain ⟨s', e', k', v', hT'⟩ := tok_ex hx.2.2.2 he
  have := (tok_nl hx.2.2.2 he hT').2
  have h240 := hx.2.1
  obtain ⟨r, z1, ⟨e1, e2, e3, e4, e5, e6, e7⟩, kk⟩ := Hr_use (m_rnG E d (t := t) hx ⟨q4, q5, q6, h8⟩ n1 n2 n3 hh el eh hT' (by omega))
  exact Hr_of kk ⟨e1, e2, e3, ⟨s', e', k', v', hT', e4, e5, e6⟩, e7⟩
theorem m_rnLF (E : zE) (d : Nat) {f : Nat → Nat → Int32} {t : (Nat → Nat → Int64) × Nat} (hx : RM f tx nl) {i s lo hb : Nat} {lv hv : Int32} (hi : i ≤ nl) (hL : LT tx f i) (h8 : f 129 8 = -1) (hN : NumF tx i lo hb s) (hl : lo ≤ 100) (hh : hb ≤ 100) (el : lv = nI lo) (eh : hv = nI hb - 1) : ∃ x, ∀ K, Cl E (d + 2) 141 [.ref 129, .int lv, .int hv] (HP (f, t)) K = K (some (.int x)) (HP (set2 f 129 8 (nI s), t)) := by
  obtain ⟨e, k, v, hT, hn⟩ := hN
  obtain ⟨q4, q5, q6⟩ := LT_t hL hT
  have := (tok_nl hx.2.2.2 hi hT).1
  have h240 := hx.2.1
  exact m_rnF E d (t := t) hT (by omega) ⟨q4, q5, q6, h8⟩ hl hh el eh hn
theorem numF_nl (ht : ∀ j, nl ≤ j → tx j = -1) {i lo hb s : Nat} (hi : i ≤ nl) (h : NumF tx i lo hb s) : s ≤ nl := by
  obtain ⟨e, k, v, h, -⟩ := h
  exact (tok_nl ht hi h).1
theorem stpF_nl (ht : ∀ j, nl ≤ j → tx j = -1) {i s : Nat} (hi : i ≤ nl) (h : StpF tx i s) : s ≤ nl := by
  obtain ⟨e, k, v, h, -⟩ := h
  exact (tok_nl ht hi h).1
/-- how an item's method ends: with the token from j loaded and a draft, or with a fault at s -/
def GoodI (tx : Nat → Int32) (f : Nat → Nat → Int32) (t : (Nat → Nat → Int64) × Nat) (j : Nat) (D : Nat → Int32) (r : Option Value) (z' : zS) : Prop := r = none ∧ z'.2 = t ∧ FrN f z'.1 ∧ LT tx z'.1 j ∧ z'.1 129 8 = -1 ∧ D133 z'.1 D
def BadI (f : Nat → Nat → Int32) (t : (Nat → Nat → Int64) × Nat) (s : Nat) (r : Option Value) (z' : zS) : Prop := r = none ∧ z'.2 = t ∧ FrN f z'.1 ∧ z'.1 129 8 = nI s
theorem s_nm {s : Nat} (h : s ≤ 240) : ¬ nI s = -1 := fun q => (nI_nm (c := s) (by omega)).mp q
theorem m_partLG (E : zE) (d : Nat) {f : Nat → Nat → Int32} {t : (Nat → Nat → Int64) × Nat} (hx : RM f tx nl) {D : Nat → Int32} (hD : D133 f D) {np : Nat} (h104 : D 104 = nI np) (hnp : np < 6) {i s e : Nat} {v : Int32} (hi : i ≤ nl) (hL : LT tx f i) (hT : Tok tx i s e 1 v) (h8 : f 129 8 = -1) {a b c e1 e2 e3 : Nat} (n1 : Num tx e 0 7 a e1) (n2 : Num tx e1 0 61 b e2) (n3 : Num tx e2 0 10 c e3) : Hr E (d + 3) 142 [.ref 129] (f, t) (GoodI tx f t e3 (dPart D np a b c)) := by
  have h240 := hx.2.1
  have l0 := (tok_nl hx.2.2.2 hi hT).2
  have l1 := num_nl hx.2.2.2 l0 n1
  have l2 := num_nl hx.2.2.2 l1 n2
  have l3 := num_nl hx.2.2.2 l2 n3
  obtain ⟨q4, q5, q6⟩ := LT_t hL hT
  obtain ⟨-, ha, -, s1, t1⟩ := n1
  obtain ⟨-, hb, -, s2, t2⟩ := n2
  obtain ⟨-, hc, -, s3, t3⟩ := n3
  obtain ⟨s4, e4, k4, v4, t4⟩ := tok_ex hx.2.2.2 l3
  have := (tok_nl hx.2.2.2 l3 t4).2
  obtain ⟨r, z1, ⟨x1, x2, x3, x4, x5⟩, kk⟩ := Hr_use (m_partG E d (t := t) hx hD h104 hnp ⟨q4, q5, q6, h8⟩ ha hb hc t1 t2 t3 t4 (by omega))
  exact Hr_of kk ⟨x1, x2, x3, ⟨s4, e4, k4, v4, t4, x4.1, x4.2.1, x4.2.2.1⟩, x4.2.2.2, x5⟩
end F7
