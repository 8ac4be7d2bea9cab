/-! READ: one item and the whole text, in the reference -/
section F13
variable {tx : Nat → Int32} {nl : Nat}
theorem m_clG (E : zE) (d : Nat) {f : Nat → Nat → Int32} {t : (Nat → Nat → Int64) × Nat} (hx : RM f tx nl) {X pc j i' : Nat} {D' : Nat → Int32} (way : ∀ K, Cl E (d + 4) 146 [.ref 129] (HP (f, t)) K = Cl E (d + 3) X [.ref 129] (HP (f, t)) (fun r h1 => Ev E (d + 4) zm_X9_readItem pc [some (.ref 129)] (zps r []) h1 K)) (epc : ∀ h Q, Ev E (d + 4) zm_X9_readItem pc [some (.ref 129)] [] h Q = Ev E (d + 4) zm_X9_readItem 127 [some (.ref 129)] [] h Q) (hj : j ≤ nl) (hS : StpS tx j i') (hr : Hr E (d + 3) X [.ref 129] (f, t) (GoodI tx f t j D')) : Hr E (d + 4) 146 [.ref 129] (f, t) (fun r z' => GoodI tx f t i' D' r z' ∧ i' ≤ nl) := by
  obtain ⟨r, z1, ⟨x1, x2, x3, x4, x5, x6⟩, kk⟩ := Hr_use hr
  subst x1
  obtain ⟨f1, tt⟩ := z1
  dsimp only at x2 x3 x4 x5 x6
  subst x2
  obtain ⟨f2, y1, y2, en⟩ := m_endG E d (t := tt) (FrN_x x3 hx) hj x4 x5 hS
  refine Hr_of (z' := (f2, tt)) (r := none) (fun K => ?_) ⟨⟨rfl, rfl, FrN_t x3 (FrN_m y1), y2, by show f2 129 8 = -1; rw [y1.2 8 (by decide) (by decide) (by decide) (by decide)]; exact x5, D133_c (y1.1 133 (by decide)) x6⟩, stp_nl hx.2.2.2 hj hS⟩
  rw [way, kk, zps_n, epc, en]
theorem m_clF (E : zE) (d : Nat) {f : Nat → Nat → Int32} {t : (Nat → Nat → Int64) × Nat} (hx : RM f tx nl) {X pc s : Nat} (hs : s ≤ nl) (way : ∀ K, Cl E (d + 4) 146 [.ref 129] (HP (f, t)) K = Cl E (d + 3) X [.ref 129] (HP (f, t)) (fun r h1 => Ev E (d + 4) zm_X9_readItem pc [some (.ref 129)] (zps r []) h1 K)) (epc : ∀ h Q, Ev E (d + 4) zm_X9_readItem pc [some (.ref 129)] [] h Q = Ev E (d + 4) zm_X9_readItem 127 [some (.ref 129)] [] h Q) (hr : Hr E (d + 3) X [.ref 129] (f, t) (fun r z' => BadI f t s r z' ∨ ∃ j D', GoodI tx f t j D' r z' ∧ j ≤ nl ∧ StpF tx j s)) : Hr E (d + 4) 146 [.ref 129] (f, t) (BadI f t s) := by
  have h240 := hx.2.1
  obtain ⟨r, z1, hz, kk⟩ := Hr_use hr
  obtain ⟨f1, tt⟩ := z1
  rcases hz with ⟨x1, x2, x3, x4⟩ | ⟨j, D', ⟨x1, x2, x3, x4, x5, x6⟩, hj, hS⟩
  · subst x1
    dsimp only at x2 x3 x4
    subst x2
    have en := m_endB E d (f := f1) (t := tt) (by rw [x4]; exact s_nm (by omega))
    refine Hr_of (z' := (f1, tt)) (r := none) (fun K => ?_) ⟨rfl, rfl, x3, x4⟩
    rw [way, kk, zps_n, epc, en]
  · subst x1
    dsimp only at x2 x3 x4 x5 x6
    subst x2
    have en := m_endF E d (t := tt) (FrN_x x3 hx) hj x4 x5 hS
    refine Hr_of (z' := (set2 f1 129 8 (nI s), tt)) (r := none) (fun K => ?_) ⟨rfl, rfl, FrN_t x3 (FrN_8 _ _), set2_s f1 129 8 (nI s)⟩
    rw [way, kk, zps_n, epc, en]
def DI (D : Nat → Int32) (np nc ns : Nat) : Prop := np ≤ 6 ∧ nc ≤ 6 ∧ ns ≤ 7 ∧ D 104 = nI np ∧ D 105 = nI nc ∧ D 106 = nI ns ∧ ∀ s, ns ≤ s → s < 7 → D (90 + 2 * s + 1) = 0
theorem rk_1 {v k' v' : Int32} (h : RK 1 v k' v') : k' = 1 := by
  rcases h with h | h
  · exact h.1
  · exact absurd h.1 (by decide)
theorem m_itemG (E : zE) (d : Nat) {f : Nat → Nat → Int32} {t : (Nat → Nat → Int64) × Nat} (hx : RM f tx nl) {D D' : Nat → Int32} (hD : D133 f D) {np nc ns np' nc' ns' i i' : Nat} (hI : DI D np nc ns) (hi : i ≤ nl) (hL : LT tx f i) (h8 : f 129 8 = -1) (hS : StepP tx D np nc ns i D' np' nc' ns' i') : Hr E (d + 4) 146 [.ref 129] (f, t) (fun r z' => GoodI tx f t i' D' r z' ∧ i' ≤ nl) := by
  have h240 := hx.2.1
  obtain ⟨i1, i2, i3, i4, i5, i6, i7⟩ := hI
  obtain ⟨s, e, v, hT, hS⟩ := hS
  obtain ⟨q4, q5, q6⟩ := LT_t hL hT
  have hse := (tok_nl hx.2.2.2 hi hT)
  obtain ⟨w0, w1, w2, w3, -⟩ := m_way E d (t := t) hx (tok_le hT).2 (by omega) q4 q5 (rk_1 q6)
  rcases hS with ⟨hw, hn, a, b, c, hNs, eD, -⟩ | ⟨hw, hn, a, b, c, g, o, hNs, eD, -⟩ | ⟨hw, hn, m, mask, k, e1, hN, hk, hSc, eD, -⟩ | ⟨hw, x, w, k, e1, hN, hk, hWi, eD, -⟩
  · subst eD
    obtain ⟨n1, e1, v1, hv1, N1, n2, e2, v2, hv2, N2, n3, e3, v3, hv3, N3, hv4, hSt⟩ := hNs
    cases hv1
    cases hv2
    cases hv3
    have l1 := num_nl hx.2.2.2 hse.2 N1
    have l2 := num_nl hx.2.2.2 l1 N2
    have l3 := num_nl hx.2.2.2 l2 N3
    exact m_clG E d (t := t) hx (w0 hw) (fun h Q => by rw [e_X9_readItem_20]) l3 hSt (m_partLG E d (t := t) hx hD i4 hn hi hL hT h8 N1 N2 N3)
  · subst eD
    obtain ⟨n1, e1, v1, hv1, N1, n2, e2, v2, hv2, N2, n3, e3, v3, hv3, N3, n4, e4, v4, hv4, N4, n5, e5, v5, hv5, N5, hv6, hSt⟩ := hNs
    cases hv1
    cases hv2
    cases hv3
    cases hv4
    cases hv5
    have l1 := num_nl hx.2.2.2 hse.2 N1
    have l2 := num_nl hx.2.2.2 l1 N2
    have l3 := num_nl hx.2.2.2 l2 N3
    have l4 := num_nl hx.2.2.2 l3 N4
    have l5 := num_nl hx.2.2.2 l4 N5
    exact m_clG E d (t := t) hx (w1 hw) (fun h Q => by rw [e_X9_readItem_58]) l5 hSt (m_childLG E d (t := t) hx hD i5 hn hi hL hT h8 N1 N2 N3 N4 N5)
  · subst eD
    obtain ⟨r, z1, ⟨j, hz, hj, hSt⟩, kk⟩ := Hr_use (m_sceneLG E d (t := t) hx hD i1 i4 i6 hn (i7 ns (Nat.le_refl ns) hn) hi hL hT h8 hN hk hSc)
    exact m_clG E d (t := t) hx (w2 hw) (fun h Q => by rw [e_X9_readItem_96]) hj hSt (Hr_of kk hz)
  · subst eD
    obtain ⟨r, z1, ⟨j, hz, hj, hSt⟩, kk⟩ := Hr_use (m_wishLG E d (t := t) hx hD i1 i2 i4 i5 hi hL hT h8 hN hk hWi)
    exact m_clG E d (t := t) hx (w3 hw) (fun h Q => by rw [e_X9_readItem_119]) hj hSt (Hr_of kk hz)
theorem numsF_nl (ht : ∀ j, nl ≤ j → tx j = -1) : ∀ (bs : List (Nat × Nat)) i s, i ≤ nl → NumsF tx bs i s → s ≤ nl
  | [], _, _, hi, h => stpF_nl ht hi h
  | _ :: bs, _, s, hi, h => by
    rcases h with h | ⟨n, e, h1, h2⟩
    · exact numF_nl ht hi h
    · exact numsF_nl ht bs e s (num_nl ht hi h1) h2
theorem scF_nl (ht : ∀ j, nl ≤ j → tx j = -1) {np : Nat} : ∀ k b i l s, i ≤ nl → ScF tx np k b i l s → s ≤ nl
  | 0, _, _, _, _, hi, ⟨_, _, _, h, _⟩ => (tok_nl ht hi h).1
  | k + 1, _, _, _, s, hi, ⟨n, e, h1, h2⟩ => scF_nl ht k _ e _ s (num_nl ht hi h1) h2
theorem wiF_nl (ht : ∀ j, nl ≤ j → tx j = -1) {np : Nat} : ∀ k i c w s, i ≤ nl → WiF tx np k i c w s → s ≤ nl
  | 0, _, _, _, _, hi, ⟨_, _, _, h, _⟩ => (tok_nl ht hi h).1
  | k + 1, _, _, _, s, hi, ⟨n, e, _, h1, _, h2⟩ => wiF_nl ht k e _ _ s (num_nl ht hi h1) h2
theorem m_itemF (E : zE) (d : Nat) {f : Nat → Nat → Int32} {t : (Nat → Nat → Int64) × Nat} (hx : RM f tx nl) {D : Nat → Int32} (hD : D133 f D) {np nc ns i s' : Nat} (hI : DI D np nc ns) (hi : i ≤ nl) (hL : LT tx f i) (h8 : f 129 8 = -1) (hF : FailP tx np nc ns i s') : Hr E (d + 4) 146 [.ref 129] (f, t) (BadI f t s') ∧ ¬ f 129 6 = 0 ∧ s' ≤ nl := by
  have h240 := hx.2.1
  obtain ⟨i1, i2, i3, i4, i5, i6, i7⟩ := hI
  obtain ⟨s, e, k, v, hT, hk0, hF⟩ := hF
  obtain ⟨q4, q5, q6⟩ := LT_t hL hT
  have hse := (tok_nl hx.2.2.2 hi hT)
  have k0 : ¬ f 129 6 = 0 := fun h => by
    rcases q6 with ⟨b1, -⟩ | ⟨-, b2, -⟩
    · exact hk0 (b1.symm.trans h)
    · rw [h] at b2
      exact absurd b2 (by decide)
  have none' : s' = s → (∀ K, Cl E (d + 4) 146 [.ref 129] (HP (f, t)) K = Cl E (d + 3) 139 [.ref 129, .int 0] (HP (f, t)) (fun r h1 => Ev E (d + 4) zm_X9_readItem 127 [some (.ref 129)] (zps r []) h1 K)) → Hr E (d + 4) 146 [.ref 129] (f, t) (BadI f t s') ∧ ¬ f 129 6 = 0 ∧ s' ≤ nl := fun es way => by
    subst es
    have nd := m_needs0 E (d + 3) (f := f) (t := t) h8
    rw [q5] at nd
    obtain ⟨f1, hf1⟩ : ∃ g : Nat → Nat → Int32, g = set2 f 129 8 (nI s') := ⟨_, rfl⟩
    rw [← hf1] at nd
    have e8 : f1 129 8 = nI s' := by rw [hf1, set2_s]
    have en := m_endB E d (f := f1) (t := t) (by rw [e8]; exact s_nm (by omega))
    refine ⟨Hr_of (z' := (f1, t)) (r := none) (fun K => ?_) ⟨rfl, rfl, by rw [hf1]; exact FrN_8 _ _, e8⟩, k0, hse.1⟩
    rw [way, nd, zps_n, en]
  rcases hF with ⟨hk1, es⟩ | ⟨hk1, hF⟩
  · refine none' es (m_way0 E d (t := t) hx (by omega) q5 (fun h => ?_))
    rcases q6 with ⟨b1, -⟩ | ⟨-, b2, -⟩
    · exact hk1 (b1.symm.trans h)
    · rw [h] at b2
      exact absurd b2 (by decide)
  · subst hk1
    obtain ⟨w0, w1, w2, w3, w4⟩ := m_way E d (t := t) hx (tok_le hT).2 (by omega) q4 q5 (rk_1 q6)
    rcases hF with ⟨hw, hF⟩ | ⟨hw, hF⟩ | ⟨hw, hF⟩ | ⟨hw, hF⟩ | ⟨hw, es⟩
    · rcases hF with ⟨e6, es⟩ | ⟨hn, hF⟩
      · subst es
        subst e6
        obtain ⟨r, z1, hz, kk⟩ := Hr_use (m_part6 E d (t := t) hD i4 (by omega) q5 h8)
        exact ⟨m_clF E d (t := t) hx hse.1 (w0 hw) (fun h Q => by rw [e_X9_readItem_20]) (Hr_of kk (Or.inl hz)), k0, hse.1⟩
      · have sl := numsF_nl hx.2.2.2 _ _ _ hse.2 hF
        exact ⟨m_clF E d (t := t) hx sl (w0 hw) (fun h Q => by rw [e_X9_readItem_20]) (m_partLF E d (t := t) hx hD i4 hn hi hL hT h8 hF), k0, sl⟩
    · rcases hF with ⟨e6, es⟩ | ⟨hn, hF⟩
      · subst es
        subst e6
        obtain ⟨r, z1, hz, kk⟩ := Hr_use (m_child6 E d (t := t) hD i5 (by omega) q5 h8)
        exact ⟨m_clF E d (t := t) hx hse.1 (w1 hw) (fun h Q => by rw [e_X9_readItem_58]) (Hr_of kk (Or.inl hz)), k0, hse.1⟩
      · have sl := numsF_nl hx.2.2.2 _ _ _ hse.2 hF
        exact ⟨m_clF E d (t := t) hx sl (w1 hw) (fun h Q => by rw [e_X9_readItem_58]) (m_childLF E d (t := t) hx hD i5 hn hi hL hT h8 hF), k0, sl⟩
    · rcases hF with ⟨e6, es⟩ | ⟨hn, hF⟩
      · subst es
        subst e6
        obtain ⟨r, z1, hz, kk⟩ := Hr_use (m_scene7 E d (t := t) hD i6 (by omega) q5 h8)
        exact ⟨m_clF E d (t := t) hx hse.1 (w2 hw) (fun h Q => by rw [e_X9_readItem_96]) (Hr_of kk (Or.inl hz)), k0, hse.1⟩
      · have sl : s' ≤ nl := by
          rcases hF with hF | ⟨m, e1, k, hN, hF⟩
          · exact numF_nl hx.2.2.2 hse.2 hF
          · exact scF_nl hx.2.2.2 _ _ _ _ _ (num_nl hx.2.2.2 hse.2 hN) hF
        exact ⟨m_clF E d (t := t) hx sl (w2 hw) (fun h Q => by rw [e_X9_readItem_96]) (m_sceneLF E d (t := t) hx hD i1 i4 i6 hn (i7 ns (Nat.le_refl ns) hn) hi hL hT h8 hF), k0, sl⟩
    · have sl : s' ≤ nl := by
        rcases hF with hF | ⟨m, e1, k, hN, hF⟩
        · exact numF_nl hx.2.2.2 hse.2 hF
        · exact wiF_nl hx.2.2.2 _ _ _ _ _ (num_nl hx.2.2.2 hse.2 hN) hF
      exact ⟨m_clF E d (t := t) hx sl (w3 hw) (fun h Q => by rw [e_X9_readItem_119]) (m_wishLF E d (t := t) hx hD i1 i2 i4 i5 hi hL hT h8 hF), k0, sl⟩
    · exact none' es (w4 hw)
end F13
