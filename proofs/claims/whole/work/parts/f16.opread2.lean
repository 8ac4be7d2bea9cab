/-! read -/
section F16
theorem rt_new {f g : Nat → Nat → Int32} {D : Nat → Int32} {np nc ns nl ny ch ea np' nc' ns' : Nat} (h : RT f 1 0 np nc ns nl ny ch ea) (hD : DRf g D np' nc' ns') (hI : DI D np' nc' ns') (hV : VD D np' nc' ns') {k : Nat → Nat → Int32} (k1 : k 1 = f 1) (k18 : k 18 = f 18) (k19 : k 19 = f 19) (kc : ∀ j i, okS j i → k (2 + j) i = g (25 + j) i) (kb : ∀ p, p < 6 → k 14 p = -1 ∧ k 15 p = -1 ∧ k 16 p = 0) (k17 : ∀ p, p < 6 → k 17 p = 0) (klo : ∀ j, j < 107 → k 130 j = D j) (khi : ∀ j, 107 ≤ j → k 130 j = f 130 j) : RT k 1 0 np' nc' ns' nl ny ch ea := by
  obtain ⟨⟨-, -, -, a4, a5, a6, a7⟩, ⟨-, -, -, b4, b5, b6, b7⟩, -, -, -, c4, c5, c6, c7⟩ := rt_F h
  obtain ⟨d1, d2, d3, d4, d5, d6, d7, d8, d9, d10⟩ := hD
  obtain ⟨-, -, -, i4, i5, i6, -⟩ := hI
  obtain ⟨v1, v2, v3, v4, v5, v6, v7⟩ := hV
  refine ⟨⟨⟨?_, ?_, ?_, ?_, ?_, ?_, ?_⟩, ⟨?_, ?_, ?_, ?_, ?_, ?_, ?_⟩, d1, d2, d3, c4, c5, c6, c7⟩, fun p hp => ?_, fun c hc => ?_, fun i hi => ?_, fun i hi => ?_, fun i hi => ?_⟩
  · exact (kc 0 0 (by unfold okS; omega)).trans d4
  · exact (kc 0 4 (by unfold okS; omega)).trans d5
  · exact (kc 0 11 (by unfold okS; omega)).trans d6
  · exact (congrFun k1 5).trans a4
  · exact (congrFun k1 6).trans a5
  · exact (congrFun k1 8).trans a6
  · exact (congrFun k1 10).trans a7
  · exact (klo 104 (by decide)).trans i4
  · exact (klo 105 (by decide)).trans i5
  · exact (klo 106 (by decide)).trans i6
  · exact (khi 107 (by decide)).trans b4
  · exact (khi 108 (by decide)).trans b5
  · exact (khi 120 (by decide)).trans b6
  · exact (khi 109 (by decide)).trans b7
  · obtain ⟨e1, e2, e3⟩ := d7 p hp
    obtain ⟨u1, u2, u3⟩ := v1 p hp
    obtain ⟨w1, w2, w3⟩ := kb p (by omega)
    have s0 : k 130 (3 * p) = D (3 * p) := klo _ (by omega)
    have s1 : k 130 (3 * p + 1) = D (3 * p + 1) := klo _ (by omega)
    have s2 : k 130 (3 * p + 2) = D (3 * p + 2) := klo _ (by omega)
    have s3 : k 130 (18 + p) = -1 := (klo _ (by omega)).trans (v5 _ (by omega) (by omega))
    have s4 : k 130 (24 + p) = -1 := (klo _ (by omega)).trans (v5 _ (by omega) (by omega))
    have s5 : k 130 (30 + p) = 0 := (klo _ (by omega)).trans (v6 _ (by omega) (by omega))
    show k 3 p = k 130 (3 * p) ∧ k 4 p = k 130 (3 * p + 1) ∧ k 5 p = k 130 (3 * p + 2) ∧ k 14 p = k 130 (18 + p) ∧ k 15 p = k 130 (24 + p) ∧ k 16 p = k 130 (30 + p) ∧ rg (k 130 (3 * p)) 0 6 ∧ rg (k 130 (3 * p + 1)) 0 60 ∧ rg (k 130 (3 * p + 2)) 0 9 ∧ orN (k 130 (18 + p)) nc' ∧ orN (k 130 (24 + p)) nc' ∧ rg (k 130 (30 + p)) 0 100
    rw [s0, s1, s2, s3, s4, s5]
    exact ⟨(kc 1 p (by unfold okS; omega)).trans e1, (kc 2 p (by unfold okS; omega)).trans e2, (kc 3 p (by unfold okS; omega)).trans e3, w1, w2, w3, u1, u2, u3, Or.inl rfl, Or.inl rfl, 0, by omega, by omega, rfl⟩
  · obtain ⟨e1, e2, e3, e4, e5⟩ := d8 c hc
    obtain ⟨u1, u2, u3, u4, u5⟩ := v2 c hc
    have s0 : k 130 (36 + 5 * c + 0) = D (36 + 5 * c) := klo _ (by omega)
    have s1 : k 130 (36 + 5 * c + 1) = D (36 + 5 * c + 1) := klo _ (by omega)
    have s2 : k 130 (36 + 5 * c + 2) = D (36 + 5 * c + 2) := klo _ (by omega)
    have s3 : k 130 (36 + 5 * c + 3) = D (36 + 5 * c + 3) := klo _ (by omega)
    have s4 : k 130 (36 + 5 * c + 4) = D (36 + 5 * c + 4) := klo _ (by omega)
    have s5 : k 130 (66 + 3 * c) = D (66 + 3 * c) := klo _ (by omega)
    have s6 : k 130 (66 + 3 * c + 1) = D (66 + (3 * c + 1)) := klo _ (by omega)
    have s7 : k 130 (66 + 3 * c + 2) = D (66 + (3 * c + 2)) := klo _ (by omega)
    have s8 : k 130 (84 + c) = 0 := (klo _ (by omega)).trans (v7 _ (by omega) (by omega))
    show k 6 c = k 130 (36 + 5 * c + 0) ∧ k 7 c = k 130 (36 + 5 * c + 1) ∧ k 8 c = k 130 (36 + 5 * c + 2) ∧ k 9 c = k 130 (36 + 5 * c + 3) ∧ k 10 c = k 130 (36 + 5 * c + 4) ∧ k 11 (3 * c) = k 130 (66 + 3 * c) ∧ k 11 (3 * c + 1) = k 130 (66 + 3 * c + 1) ∧ k 11 (3 * c + 2) = k 130 (66 + 3 * c + 2) ∧ k 17 c = k 130 (84 + c) ∧ rg (k 130 (36 + 5 * c + 0)) 1 9 ∧ rg (k 130 (36 + 5 * c + 1)) 0 9 ∧ rg (k 130 (36 + 5 * c + 2)) 0 9 ∧ rg (k 130 (36 + 5 * c + 3)) 0 9 ∧ rg (k 130 (36 + 5 * c + 4)) 0 19 ∧ orN (k 130 (66 + 3 * c)) np' ∧ orN (k 130 (66 + 3 * c + 1)) np' ∧ orN (k 130 (66 + 3 * c + 2)) np'
    rw [s0, s1, s2, s3, s4, s5, s6, s7, s8]
    exact ⟨(kc 4 c (by unfold okS; omega)).trans e1, (kc 5 c (by unfold okS; omega)).trans e2, (kc 6 c (by unfold okS; omega)).trans e3, (kc 7 c (by unfold okS; omega)).trans e4, (kc 8 c (by unfold okS; omega)).trans e5, (kc 9 (3 * c) (by unfold okS; omega)).trans (d9 (3 * c) (by omega)), (kc 9 (3 * c + 1) (by unfold okS; omega)).trans (d9 (3 * c + 1) (by omega)), (kc 9 (3 * c + 2) (by unfold okS; omega)).trans (d9 (3 * c + 2) (by omega)), k17 c (by omega), u1, u2, u3, u4, u5, v3 (3 * c) (by omega), v3 (3 * c + 1) (by omega), v3 (3 * c + 2) (by omega)⟩
  · obtain ⟨e1, e2⟩ := d10 i hi
    obtain ⟨u1, u2⟩ := v4 i hi
    have s0 : k 130 (90 + 2 * i) = D (90 + 2 * i) := klo _ (by omega)
    have s1 : k 130 (90 + 2 * i + 1) = D (90 + 2 * i + 1) := klo _ (by omega)
    show k 12 i = k 130 (90 + 2 * i) ∧ k 13 i = k 130 (90 + 2 * i + 1) ∧ rg (k 130 (90 + 2 * i)) 1 20 ∧ rg (k 130 (90 + 2 * i + 1)) 0 63
    rw [s0, s1]
    exact ⟨(kc 10 i (by unfold okS; omega)).trans e1, (kc 11 i (by unfold okS; omega)).trans e2, u1, u2⟩
  · have := rt_B h hi
    show k 18 i = k 130 (121 + i) ∧ rg (k 130 (121 + i)) 0 255
    rw [k18, khi _ (by omega)]
    exact this
  · have := rt_Y h hi
    show k 19 i = k 130 (110 + i) ∧ rg (k 130 (110 + i)) 0 1
    rw [k19, khi _ (by omega)]
    exact this
set_option maxRecDepth 100000 in
theorem op_read (E : zE) (d : Nat) {z : zS} (hI : Inv z) : OpI E (d + 7) 87 147 [] z := by
  obtain ⟨f, t⟩ := z
  have hI' := hI
  obtain ⟨⟨np, nc, ns, nl, ny, ch, ea, h⟩, hRst⟩ := hI'
  dsimp only at h
  obtain ⟨⟨a1, a2, a3, a4, a5, a6, a7⟩, ⟨b1, b2, b3, b4, b5, b6, b7⟩, c1, c2, c3, c4, c5, c6, c7⟩ := rt_F h
  obtain ⟨tx, htx⟩ : ∃ g : Nat → Int32, g = fun j => if j < nl then f 18 j else -1 := ⟨_, rfl⟩
  have tlo : ∀ j, j < nl → tx j = f 18 j := fun j hj => by rw [htx]; exact if_pos hj
  have thi : ∀ j, nl ≤ j → tx j = -1 := fun j hj => by rw [htx]; exact if_neg (by omega)
  have tb : ∀ j, j < nl → ∃ n, n ≤ 255 ∧ tx j = nI n := fun j hj => by
    obtain ⟨e1, n, -, n2, n3⟩ := rt_B h hj
    exact ⟨n, n2, by rw [tlo j hj, e1]; exact n3⟩
  have hb : ∀ j, j < nl → f 18 j = tx j ∧ ¬ tx j = -1 := fun j hj => by
    obtain ⟨n, n1, n2⟩ := tb j hj
    refine ⟨(tlo j hj).symm, ?_⟩
    rw [n2]
    exact fun q => (nI_nm (c := n) (by omega)).mp q
  have RMf : ∀ g : Nat → Nat → Int32, g 130 = f 130 → RM g tx nl := fun g hg => by
    refine ⟨by rw [hg]; exact b6, c6, fun j hj => ?_, thi⟩
    obtain ⟨n, n1, n2⟩ := tb j hj
    rw [hg]
    refine ⟨by rw [tlo j hj]; exact (rt_B h hj).1.symm, ?_⟩
    rw [n2]
    exact nI_pos (by omega)
  obtain ⟨v, z1, ⟨e1, e2, hc⟩, k1⟩ := Hr_use (x_readText E d (t := t) c6 hb thi)
  obtain ⟨f1, t1⟩ := z1
  dsimp only at e1 e2 hc
  subst e1
  rcases hc with ⟨n, S', i', s, w, ev, hR, hE, hDR⟩ | ⟨n, S', i', s, ev, hR, hF⟩
  · subst ev
    obtain ⟨r0, z0, ⟨-, -, -, -, -, hDI, hi'⟩, -⟩ := Hr_use (m_readG E d (t := t) (RMf f rfl) hR hE)
    obtain ⟨hVD, hn⟩ := vd_run n Sz S' 0 i' sz_di vd_z hR
    have nn : (nI n < 0) = False := nI_neg (by omega)
    have bg := t_begin isT_1 isS_25 (by decide) E (d + 5) f1 (t.1, 18)
    obtain ⟨p1, p2⟩ := cpS_at (o := 2) (q := 25) (by omega) f1
    obtain ⟨q1, q2⟩ := bgF_at (cpS (1 + 1) 25 f1) 6
    obtain ⟨r1, r2⟩ := bg2_at (itr (bgF 1) 6 (cpS (1 + 1) 25 f1)) 6
    obtain ⟨f2, hf2⟩ : ∃ g : Nat → Nat → Int32, g = itr (bg2 1) 6 (itr (bgF 1) 6 (cpS (1 + 1) 25 f1)) := ⟨_, rfl⟩
    rw [← hf2] at bg r1 r2
    have un : ∀ a, a < 2 ∨ (17 < a ∧ a < 24) ∨ 36 < a → f2 a = f a := fun a ha => by
      rw [r1 a (by omega), q1 a (by omega) (by omega) (by omega), p1 a (by omega)]
      exact e2 a (by omega)
    obtain ⟨r3, z3, ⟨y1, y2, y3, y4, y5, -⟩, k3⟩ := Hr_use (m_readG E (d + 2) (f := f2) (t := (t.1, 18)) (RMf f2 (un 130 (by omega))) hR hE)
    subst y1
    obtain ⟨f3, t3⟩ := z3
    dsimp only at y2 y3 y4 y5
    subst y2
    refine ⟨nI n, (f2, t.1, 18), (f3, t.1, 18), fun K => ?_, k3, ?_⟩
    · simp only [↓c_X8_read, ↓e_X8_read_0, ↓e_X8_read_4, ↓e_X8_read_8, ↓e_X8_read_11, ↓e_X8_read_15, ↓e_X8_read_18, ↓e_X8_read_21, ↓e_X8_read_26, ↓e_X8_read_30, ↓e_X8_read_34, ↓e_X8_read_37, ↓e_X8_read_40, g8 o8_0, g7 o7_1, g5 o5_24, v5 o5_24, v7 o7_1, Nat.reduceAdd, a6, k1, nn, bg, zps_s, zps_n, zk_i, zk_r, zk_n, ↓reduceIte]
    · refine Inv_upd (z := (f, t)) ⟨S'.2.1, S'.2.2.1, S'.2.2.2, nl, ny, ch, ea, rt_new (k := f3) h hDR hDI hVD ?_ ?_ ?_ ?_ ?_ ?_ y4 ?_⟩ (fun r hr => ?_) (fun k hk => ?_) rfl rfl rfl hI
      · rw [y3 1 (by decide) (by decide) (by decide)]; exact un 1 (by omega)
      · rw [y3 18 (by decide) (by decide) (by decide)]; exact un 18 (by omega)
      · rw [y3 19 (by decide) (by decide) (by decide)]; exact un 19 (by omega)
      · intro j i hj
        have hj' : j ≤ 11 := by unfold okS at hj; omega
        rw [y3 (2 + j) (by omega) (by omega) (by omega), r1 (2 + j) (by omega), q1 (2 + j) (by omega) (by omega) (by omega)]
        exact p2 j i hj
      · intro p hp
        rw [y3 14 (by decide) (by decide) (by decide), y3 15 (by decide) (by decide) (by decide), y3 16 (by decide) (by decide) (by decide), r1 14 (by decide), r1 15 (by decide), r1 16 (by decide)]
        exact q2 p hp
      · intro p hp
        rw [y3 17 (by decide) (by decide) (by decide)]
        exact r2 p hp
      · intro j hj
        rw [y5 j hj, un 130 (by omega)]
      · show f3 r = f r
        rw [y3 r (by omega) (by omega) (by omega)]
        exact un r (by omega)
      · show f3 130 k = f 130 k
        rw [y5 k (by omega), un 130 (by omega)]
  · subst ev
    obtain ⟨r0, z0, ⟨-, -, -, hs⟩, -⟩ := Hr_use (m_readF E d (t := t) (RMf f rfl) hR hF)
    have un : ∀ a, a < 24 ∨ 36 < a → f1 a = f a := e2
    obtain ⟨r3, z3, ⟨y1, y2, y3, -⟩, k3⟩ := Hr_use (m_readF E (d + 2) (f := f1) (t := (t.1, 18)) (RMf f1 (un 130 (by omega))) hR hF)
    subst y1
    obtain ⟨f3, t3⟩ := z3
    dsimp only at y2 y3
    subst y2
    have nn : (-10 - nI s < 0) = True := eq_true (by
      rw [iI_n s, show (-10 : Int32) = iI (-10) from by decide, iI_sub, show (0 : Int32) = iI 0 from by decide, iI_lt (by omega) (by omega) (by omega) (by omega)]
      omega)
    refine ⟨-10 - nI s, (f1, t.1, 18), (f3, t.1, 18), fun K => ?_, k3, ?_⟩
    · simp only [↓c_X8_read, ↓e_X8_read_0, ↓e_X8_read_4, ↓e_X8_read_8, ↓e_X8_read_11, ↓e_X8_read_15, ↓e_X8_read_18, ↓e_X8_read_21, ↓e_X8_read_26, ↓e_X8_read_30, ↓e_X8_read_34, ↓e_X8_read_37, ↓e_X8_read_40, g8 o8_0, g7 o7_1, g5 o5_24, v5 o5_24, v7 o7_1, Nat.reduceAdd, a6, k1, nn, zps_s, zps_n, zk_i, zk_r, zk_n, ↓reduceIte]
    · refine Inv_keep (z := (f, t)) (fun r hr => ?_) rfl rfl rfl hI
      show f3 r = f r
      rw [y3.1 r (by omega) (by omega)]
      exact un r (by omega)
end F16
