/-! READ: parts, in the reference -/
section F6
variable {tx : Nat → Int32} {nl : Nat}
def FrN (f f' : Nat → Nat → Int32) : Prop := (∀ a, a ≠ 129 → a ≠ 133 → f' a = f a) ∧ ∀ k, (k < 4 ∨ 8 < k) → f' 129 k = f 129 k
theorem FrN_r (f : Nat → Nat → Int32) : FrN f f := ⟨fun _ _ _ => rfl, fun _ _ => rfl⟩
theorem FrN_t {f g h : Nat → Nat → Int32} (a : FrN f g) (b : FrN g h) : FrN f h := ⟨fun x h1 h2 => by rw [b.1 x h1 h2, a.1 x h1 h2], fun k hk => by rw [b.2 k hk, a.2 k hk]⟩
theorem FrN_m {f g : Nat → Nat → Int32} (a : FrM f g) : FrN f g := ⟨fun x h1 _ => a.1 x h1, fun k hk => a.2 k (by omega) (by omega) (by omega) (by omega)⟩
theorem FrN_3 (f : Nat → Nat → Int32) (j : Nat) (x : Int32) : FrN f (set2 f 133 j x) := ⟨fun a _ h2 => set2_a h2, fun k _ => by rw [set2_a (by decide)]⟩
theorem FrN_8 (f : Nat → Nat → Int32) (x : Int32) : FrN f (set2 f 129 8 x) := ⟨fun a h1 _ => set2_a h1, fun k hk => by rw [set2_n (Or.inr (by omega))]⟩
theorem FrN_x {f f' : Nat → Nat → Int32} (h : FrN f f') (hx : RM f tx nl) : RM f' tx nl := by
  unfold RM
  rw [h.1 130 (by decide) (by decide)]
  exact hx
theorem LD4_c {f f' : Nat → Nat → Int32} {s e : Nat} {k v : Int32} (h : f' 129 = f 129) (hL : LD4 f s e k v) : LD4 f' s e k v := by
  unfold LD4
  rw [h]
  exact hL
def D133 (f : Nat → Nat → Int32) (D : Nat → Int32) : Prop := ∀ j, j < 110 → f 133 j = D j
theorem D133_c {f f' : Nat → Nat → Int32} {D : Nat → Int32} (h : f' 133 = f 133) (hD : D133 f D) : D133 f' D := by
  unfold D133
  rw [h]
  exact hD
theorem D133_w {f : Nat → Nat → Int32} {D : Nat → Int32} (hD : D133 f D) (k : Nat) (x : Int32) : D133 (set2 f 133 k x) (upd D k x) := fun j hj => by
  by_cases e : j = k
  · subst e
    rw [set2_s, uS]
  · rw [set2_n (Or.inr e), uN e]
    exact hD j hj
theorem j133 : isI 133 110 := rfl
set_option maxRecDepth 100000 in
theorem m_partG (E : zE) (d : Nat) {f : Nat → Nat → Int32} {t : (Nat → Nat → Int64) × Nat} (hx : RM f tx nl) {D : Nat → Int32} (hD : D133 f D) {np : Nat} (h104 : D 104 = nI np) (hnp : np < 6) {s e : Nat} {v : Int32} (hL : LD4 f s e 1 v) {a b c s1 e1 s2 e2 s3 e3 s4 e4 : Nat} {k4 v4 : Int32} (ha : a < 7) (hb : b < 61) (hc : c < 10) (t1 : Tok tx e s1 e1 2 (nI a)) (t2 : Tok tx e1 s2 e2 2 (nI b)) (t3 : Tok tx e2 s3 e3 2 (nI c)) (t4 : Tok tx e3 s4 e4 k4 v4) (he : e4 ≤ 241) : Hr E (d + 3) 142 [.ref 129] (f, t) (fun r z' => r = none ∧ z'.2 = t ∧ FrN f z'.1 ∧ LD4 z'.1 s4 e4 k4 v4 ∧ D133 z'.1 (dPart D np a b c)) := by
  have l2 := tok_le t2
  have l3 := tok_le t3
  have l4 := tok_le t4
  obtain ⟨r1, z1, ⟨x1, x2, x3, x4, x5, x6⟩, k1⟩ := Hr_use (m_token E (d + 1) (t := t) hx t1 (by omega) hL.1)
  subst x1
  obtain ⟨f1, tt⟩ := z1
  dsimp only at x2 x3 x4 x5 x6
  subst x2
  have n1 : FrN f f1 := FrN_m x3
  have L1 : LD4 f1 s1 e1 2 (nI a) := ⟨x4, x5, x6, by rw [x3.2 8 (by decide) (by decide) (by decide) (by decide)]; exact hL.2.2.2⟩
  have D1 : D133 f1 D := D133_c (x3.1 133 (by decide)) hD
  obtain ⟨r2, z2, ⟨y1, y2, y3, y4⟩, k2⟩ := Hr_use (m_rnG E d (t := tt) (FrN_x n1 hx) L1 (lo := 0) (hb := 7) (by omega) ha (by omega) (by decide) (lv := 0) (hv := 6) (by decide) (by decide) t2 (by omega))
  subst y1
  obtain ⟨f2, tt⟩ := z2
  dsimp only at y2 y3 y4
  subst y2
  obtain ⟨f3, hf3⟩ : ∃ g : Nat → Nat → Int32, g = set2 f2 133 (3 * np) (nI a) := ⟨_, rfl⟩
  have w3 := wi_k j133 (show 3 * np < 110 by omega) (by decide) (f2, tt) (nI a)
  dsimp only at w3
  rw [← hf3] at w3
  have L3 : LD4 f3 s2 e2 2 (nI b) := LD4_c (by rw [hf3, set2_a (by decide)]) y4
  have n3 : FrN f f3 := FrN_t n1 (FrN_t (FrN_m y3) (by rw [hf3]; exact FrN_3 _ _ _))
  have D3 : D133 f3 (upd D (3 * np) (nI a)) := by rw [hf3]; exact D133_w (D133_c (y3.1 133 (by decide)) D1) _ _
  have g3 := m_isGood E (d + 2) (f3, tt)
  dsimp only at g3
  rw [decide_eq_true L3.2.2.2] at g3
  obtain ⟨r4, z4, ⟨u1, u2, u3, u4⟩, k4'⟩ := Hr_use (m_rnG E d (t := tt) (FrN_x n3 hx) L3 (lo := 0) (hb := 61) (by omega) hb (by omega) (by decide) (lv := 0) (hv := 60) (by decide) (by decide) t3 (by omega))
  subst u1
  obtain ⟨f4, tt⟩ := z4
  dsimp only at u2 u3 u4
  subst u2
  obtain ⟨f5, hf5⟩ : ∃ g : Nat → Nat → Int32, g = set2 f4 133 (3 * np + 1) (nI b) := ⟨_, rfl⟩
  have w5 := wi_k j133 (show 3 * np + 1 < 110 by omega) (by decide) (f4, tt) (nI b)
  dsimp only at w5
  rw [← hf5] at w5
  have L5 : LD4 f5 s3 e3 2 (nI c) := LD4_c (by rw [hf5, set2_a (by decide)]) u4
  have n5 : FrN f f5 := FrN_t n3 (FrN_t (FrN_m u3) (by rw [hf5]; exact FrN_3 _ _ _))
  have D5 : D133 f5 (upd (upd D (3 * np) (nI a)) (3 * np + 1) (nI b)) := by rw [hf5]; exact D133_w (D133_c (u3.1 133 (by decide)) D3) _ _
  have g5' := m_isGood E (d + 2) (f5, tt)
  dsimp only at g5'
  rw [decide_eq_true L5.2.2.2] at g5'
  obtain ⟨r6, z6, ⟨o1, o2, o3, o4⟩, k6⟩ := Hr_use (m_rnG E d (t := tt) (FrN_x n5 hx) L5 (lo := 0) (hb := 10) (by omega) hc (by omega) (by decide) (lv := 0) (hv := 9) (by decide) (by decide) t4 he)
  subst o1
  obtain ⟨f6, tt⟩ := z6
  dsimp only at o2 o3 o4
  subst o2
  obtain ⟨f7, hf7⟩ : ∃ g : Nat → Nat → Int32, g = set2 f6 133 (3 * np + 2) (nI c) := ⟨_, rfl⟩
  have w7 := wi_k j133 (show 3 * np + 2 < 110 by omega) (by decide) (f6, tt) (nI c)
  dsimp only at w7
  rw [← hf7] at w7
  have D7 : D133 f7 (upd (upd (upd D (3 * np) (nI a)) (3 * np + 1) (nI b)) (3 * np + 2) (nI c)) := by rw [hf7]; exact D133_w (D133_c (o3.1 133 (by decide)) D5) _ _
  obtain ⟨f8, hf8⟩ : ∃ g : Nat → Nat → Int32, g = set2 f7 133 104 (nI (np + 1)) := ⟨_, rfl⟩
  have w8 := wi_k j133 (show 104 < 110 by decide) (by decide) (f7, tt) (nI (np + 1))
  dsimp only at w8
  rw [← hf8] at w8
  have r0 := ri_k j133 (show 104 < 110 by decide) (by decide) E (f, tt)
  have v0 : f 133 104 = nI np := (hD 104 (by decide)).trans h104
  have r1' := ri_k j133 (show 104 < 110 by decide) (by decide) E (f1, tt)
  have v1' : f1 133 104 = nI np := (D1 104 (by decide)).trans h104
  have r7 := ri_k j133 (show 104 < 110 by decide) (by decide) E (f7, tt)
  have v7 : f7 133 104 = nI np := by rw [D7 104 (by decide), uN (by omega), uN (by omega), uN (by omega)]; exact h104
  have g0 := m_isGood E (d + 2) (f, tt)
  dsimp only at g0
  rw [decide_eq_true hL.2.2.2] at g0
  have ix : (0 : Int32) + 3 * nI np = nI (3 * np) := by rw [show (0 : Int32) = nI 0 from by decide, show (3 : Int32) = nI 3 from by decide, nI_mul, nI_add, Nat.zero_add]
  have ix1 : nI (3 * np) + 1 = nI (3 * np + 1) := by rw [show (1 : Int32) = nI 1 from by decide, nI_add]
  have ix2 : nI (3 * np) + 2 = nI (3 * np + 2) := by rw [show (2 : Int32) = nI 2 from by decide, nI_add]
  have l6 : (nI np < 6) = True := eq_true (by rw [show (6 : Int32) = nI 6 from by decide, nI_lt_iff (by omega) (by decide)]; exact hnp)
  refine Hr_of (z' := (f8, tt)) (r := none) (fun K => ?_) ⟨rfl, rfl, FrN_t n5 (FrN_t (FrN_m o3) (FrN_t (g := f7) (by rw [hf7]; exact FrN_3 _ _ _) (by show FrN f7 f8; rw [hf8]; exact FrN_3 _ _ _))), LD4_c (by show f8 129 = f6 129; rw [hf8, set2_a (by decide), hf7, set2_a (by decide)]) o4, by show D133 f8 _; rw [hf8]; exact D133_w D7 _ _⟩
  simp only [↓c_X9_readPart, ↓e_X9_readPart_0, ↓e_X9_readPart_5, ↓e_X9_readPart_8, ↓e_X9_readPart_13, ↓e_X9_readPart_17, ↓e_X9_readPart_18, ↓e_X9_readPart_21, ↓e_X9_readPart_25, ↓e_X9_readPart_28, ↓e_X9_readPart_32, ↓e_X9_readPart_38, ↓e_X9_readPart_41, ↓e_X9_readPart_48, ↓e_X9_readPart_56, ↓e_X9_readPart_57, ↓e_X9_readPart_61, ↓e_X9_readPart_68, ↓e_X9_readPart_71, ↓e_X9_readPart_78, ↓e_X9_readPart_81, ↓e_X9_readPart_82, ↓e_X9_readPart_83, ↓e_X9_readPart_87, ↓e_X9_readPart_94, ↓e_X9_readPart_97, ↓e_X9_readPart_104, ↓e_X9_readPart_107, ↓e_X9_readPart_108, ↓e_X9_readPart_109, ↓e_X9_readPart_113, ↓e_X9_readPart_117, ↓e_X9_readPart_120, g9 o9_129, v9 o9_129, Nat.reduceAdd, n104, r0, v0, l6, m_needs1, g0, k1, r1', v1', ix, ix1, ix2, k2, w3, g3, k4', w5, g5', k6, w7, r7, v7, nI_1, w8, zps_s, zps_n, bI_t, i01, zk_i, zk_r, zk_n, ↓reduceIte]
end F6
