/-! image, from, tried -/
theorem i20 : zlay[20]? = some (.inl (3, 2, [91, 110])) := by decide +kernel
theorem z21 : isZ 21 2 := rfl
theorem z131 : isZ 131 2 := rfl
def imO (i : Nat) : Nat := if i = 0 then 91 else 110
theorem ra20 {i : Nat} (hi : i < 2) (z : zS) (K : Nat → Prop) : zra (HP z) 20 (nI i) K = K (imO i) := by
  unfold zra
  rw [HP_get i20]
  show (if nI i < 0 ∨ 2 ≤ (nI i).toNatClampNeg ∨ ((3 : Nat) ≠ 3 ∧ (3 : Nat) ≠ 4) then False else (match ([91, 110] : List Nat)[(nI i).toNatClampNeg]? with
    | some r => K r
    | none => False)) = _
  have hf : ¬ (nI i < 0 ∨ 2 ≤ i ∨ ((3 : Nat) ≠ 3 ∧ (3 : Nat) ≠ 4)) := by
    rw [nI_neg (show i < 2 ^ 31 by omega)]
    intro q
    rcases q with q | q | q
    · exact q
    · omega
    · exact q.1 rfl
  rw [nI_cl (by omega), if_neg hf]
  obtain rfl | rfl : i = 0 ∨ i = 1 := by omega
  · rfl
  · rfl
theorem rb_k {o n k : Nat} (ho : isZ o n) (hk : k < n) (hn : n < 2 ^ 31) (z : zS) (K : Int32 → Prop) : zrb (HP z) o (nI k) K = K (z.1 o k) := by
  rw [HP_rb ho, in_nI hk hn, nI_cl (by omega), true_and]
theorem nar1 : vp_nar .boolean 1 = 1 := by decide
theorem wb_k {o n k : Nat} (ho : isZ o n) (hk : k < n) (hn : n < 2 ^ 31) (z : zS) (K : zH → Prop) : zwb (HP z) o (nI k) 1 K = K (HP (set2 z.1 o k 1, z.2)) := by
  rw [HP_wb ho, in_nI hk hn, nI_cl (by omega), true_and, nar1]
theorem isT_im {i : Nat} : isT (imO i) := by
  unfold imO
  split
  · exact isT_91
  · exact isT_110
theorem im_ne {i : Nat} : (1 : Nat) ≠ imO i := by unfold imO; split <;> decide
/-- a stretch of a row, copied -/
theorem mv_at {r a b : Nat} (f : Nat → Nat → Int32) : ∀ n, (b + n ≤ a ∨ a + n ≤ b) → ∀ x, itr (mvF r a r b) n f r x = if a ≤ x ∧ x < a + n then f r (b + (x - a)) else f r x
  | 0, _, x => by
    rw [if_neg (by omega)]
    rfl
  | n + 1, hd, x => by
    have ih := fun x => mv_at (r := r) (a := a) (b := b) f n (by omega) x
    show set2 (itr (mvF r a r b) n f) r (a + n) (itr (mvF r a r b) n f r (b + n)) r x = _
    by_cases e : x = a + n
    · subst e
      rw [set2_s, ih (b + n), if_neg (by omega), if_pos (by omega), show a + n - a = n by omega]
    · rw [set2_n (Or.inr e), ih x]
      by_cases q : a ≤ x ∧ x < a + n
      · rw [if_pos q, if_pos (by omega)]
      · rw [if_neg q, if_neg (by omega)]
theorem e361 {i : Nat} (hi : i < 2) : (361 : Int32) * (nI i + 1) = nI (361 * (i + 1)) := by
  rw [nI_1]
  exact nI_mul 361 (i + 1)
/-- an image kept -/
theorem Inv_im {z : zS} (hI : Inv z) {i : Nat} (hi : i < 2) : Inv (itr (mvF 130 (361 * (i + 1)) 130 0) 361 (set2 (set2 (cpT (imO i) 1 z.1) 21 i 1) 131 i 1), z.2) := by
  have ho : imO i = 91 + 19 * i := by unfold imO; split <;> omega
  have hd : imO i + 18 < 1 ∨ 1 + 18 < imO i := by omega
  obtain ⟨c1, c2⟩ := cpT_at hd z.1
  obtain ⟨g, hg⟩ : ∃ g : Nat → Nat → Int32, g = itr (mvF 130 (361 * (i + 1)) 130 0) 361 (set2 (set2 (cpT (imO i) 1 z.1) 21 i 1) 131 i 1) := ⟨_, rfl⟩
  have gr : ∀ r, r ≠ 130 → r ≠ 21 → r ≠ 131 → g r = cpT (imO i) 1 z.1 r := fun r h1 h2 h3 => by
    rw [hg, mv_r h1, set2_a h3, set2_a h2]
  have go : ∀ r, r ≠ 130 → r ≠ 21 → r ≠ 131 → (r < imO i ∨ imO i + 18 < r) → g r = z.1 r := fun r h1 h2 h3 h4 => by rw [gr r h1 h2 h3, c1 r h4]
  have gs : ∀ x, g 130 x = if 361 * (i + 1) ≤ x ∧ x < 361 * (i + 1) + 361 then z.1 130 (x - 361 * (i + 1)) else z.1 130 x := fun x => by
    rw [hg, mv_at _ 361 (by omega), set2_a (by decide), set2_a (by decide), c1 130 (by omega), Nat.zero_add]
  have gi : g (imO i) = g (imO i) := rfl
  have g21 : ∀ k, g 21 k = if k = i then 1 else z.1 21 k := fun k => by
    rw [hg, mv_r (by decide), set2_a (by decide)]
    by_cases e : k = i
    · subst e
      rw [if_pos rfl, set2_s]
    · rw [if_neg e, set2_n (Or.inr e), c1 21 (by omega)]
  have g131 : ∀ k, g 131 k = if k = i then 1 else z.1 131 k := fun k => by
    rw [hg, mv_r (by decide)]
    by_cases e : k = i
    · subst e
      rw [if_pos rfl, set2_s]
    · rw [if_neg e, set2_n (Or.inr e), set2_a (by decide), c1 131 (by omega)]
  rw [← hg]
  obtain ⟨hR, i0, i1, hr, hf⟩ := hI
  have img : ∀ k o b, k < 2 → o = 91 + 19 * k → b = 361 * (k + 1) → Img z k o b → Img (g, z.2) k o b := by
    intro k o b hk he hb hi'
    by_cases e : k = i
    · subst e
      refine ⟨by show g 21 k = g 131 k; rw [g21, g131, if_pos rfl, if_pos rfl], Or.inr ⟨by show g 21 k = 1; rw [g21, if_pos rfl], ?_⟩⟩
      refine RTx_c (o := 1) (b := 0) (fun j x hj => ?_) (fun x hx => ?_) hR
      · have := okI_le hj
        have hc := c2 j x hj
        rw [ho, ← he] at hc
        show g (j + o) x = z.1 (j + 1) x
        rw [gr _ (by omega) (by omega) (by omega), ho, ← he]
        exact hc
      · show g 130 (x + b) = z.1 130 (x + 0)
        rw [gs, if_pos (by omega), show x + b - 361 * (k + 1) = x + 0 by omega]
    · obtain ⟨h1, h2⟩ := hi'
      refine ⟨by show g 21 k = g 131 k; rw [g21, g131, if_neg e, if_neg e]; exact h1, ?_⟩
      show g 21 k = 0 ∨ g 21 k = 1 ∧ _
      rw [g21, if_neg e]
      rcases h2 with h2 | ⟨h2, h3⟩
      · exact Or.inl h2
      · refine Or.inr ⟨h2, RTx_c (fun j x hj => ?_) (fun x hx => ?_) h3⟩
        · have := okI_le hj
          exact congrFun (go (j + o) (by omega) (by omega) (by omega) (by omega)) x
        · show g 130 (x + b) = z.1 130 (x + b)
          rw [gs, if_neg (by omega)]
  refine ⟨RTx_c (fun j x hj => ?_) (fun x hx => ?_) hR, img 0 91 361 (by decide) (by decide) (by decide) i0, img 1 110 722 (by decide) (by decide) (by decide) i1, fun k hk => ?_, hf⟩
  · have := okI_le hj
    exact congrFun (go (j + 1) (by omega) (by omega) (by omega) (by omega)) x
  · show g 130 (x + 0) = z.1 130 (x + 0)
    rw [gs, if_neg (by omega)]
  · show g 23 k = g 132 k
    rw [go 23 (by decide) (by decide) (by decide) (by omega), go 132 (by decide) (by decide) (by decide) (by omega)]
    exact hr k hk
theorem op_image (E : zE) (d : Nat) {z : zS} (hI : Inv z) (w : Int32) : OpI E (d + 2) 114 219 [.int w] z := by
  rcases inL_c (x := w) 0 1 m_d0 m_d1 (by decide) (by decide) with ⟨hv, i, -, hj, rfl⟩ | ⟨hv, hv2⟩
  · have w2 : (nI i < (2 : Int32)) = True := eq_true (nI_lt (b := 2) (by omega) (by decide))
    refine ⟨1, (set2 (cpT (imO i) 1 z.1) 21 i 1, z.2), _, fun K => ?_, fun K => ?_, Inv_im hI (show i < 2 by omega)⟩
    · simp only [↓c_X8_image, ↓e_X8_image_0, ↓e_X8_image_4, ↓e_X8_image_9, ↓e_X8_image_17, ↓e_X8_image_18, ↓e_X8_image_22, ↓e_X8_image_24, ↓e_X8_image_28, ↓e_X8_image_31, ↓e_X8_image_35, ↓e_X8_image_38, nI_neg (show i < 2 ^ 31 by omega), w2, g8 o8_0, Nat.reduceAdd, ra20 (show i < 2 by omega), v7 (isT_im (i := i)).1, t_copyOf (isT_im (i := i)) isT_1 im_ne E d z.1 z.2, wb_k z21 (show i < 2 by omega) (by decide), zps_n, zk_i, zk_r, zk_n, ↓reduceIte, cpT]
    · have ec := m_copies E (d + 1) (a := 361 * (i + 1)) (b := 0) (by omega) (by decide) (set2 (set2 (cpT (imO i) 1 z.1) 21 i 1) 131 i 1) z.2
      rw [nI_0] at ec
      simp only [↓c_X9_image, ↓e_X9_image_0, ↓e_X9_image_7, ↓e_X9_image_10, ↓e_X9_image_14, ↓e_X9_image_15, ↓e_X9_image_19, ↓e_X9_image_22, ↓e_X9_image_34, m_in, hv, zps_s, bI_0, g9 o9_129, v9 o9_129, Nat.reduceAdd, wb_k z131 (show i < 2 by omega) (by decide), e361 (show i < 2 by omega), ec, zps_n, zk_i, zk_r, zk_n, reduceCtorEq, ↓reduceIte]
  · refine op_ref hI 0 (-2) (fun K => ?_) (fun z1 K hr e => ?_)
    · by_cases q : w < 0
      · simp only [↓c_X8_image, ↓e_X8_image_0, ↓e_X8_image_4, ↓e_X8_image_9, ↓e_X8_image_17, ↓e_X8_image_18, ↓e_X8_image_22, ↓e_X8_image_24, ↓e_X8_image_28, ↓e_X8_image_31, ↓e_X8_image_35, ↓e_X8_image_38, q, v8 o8_0, Nat.reduceAdd, x_bad, zps_s, zk_i, zk_r, zk_n, ↓reduceIte]
      · have q1 : (w < (2 : Int32)) = False := eq_false (fun q3 => by
          have := hv2.resolve_left q
          have e2 : (2 : Int32) = nI 2 := rfl
          rw [e2] at q3
          rw [Int32.lt_iff_toInt_lt, nI_toInt (by decide)] at q3 this
          omega)
        simp only [↓c_X8_image, ↓e_X8_image_0, ↓e_X8_image_4, ↓e_X8_image_9, ↓e_X8_image_17, ↓e_X8_image_18, ↓e_X8_image_22, ↓e_X8_image_24, ↓e_X8_image_28, ↓e_X8_image_31, ↓e_X8_image_35, ↓e_X8_image_38, q, q1, v8 o8_0, Nat.reduceAdd, x_bad, zps_s, zk_i, zk_r, zk_n, ↓reduceIte]
    · simp only [↓c_X9_image, ↓e_X9_image_0, ↓e_X9_image_7, ↓e_X9_image_10, ↓e_X9_image_14, ↓e_X9_image_15, ↓e_X9_image_19, ↓e_X9_image_22, ↓e_X9_image_34, v9 o9_129, m_in, hv, zps_s, bI_0, m_bad, zk_i, zk_r, zk_n, ↓reduceIte]
/-- it goes on from one -/
theorem Inv_fr {z : zS} (hI : Inv z) {i : Nat} (hi : i < 2) (hk : z.1 21 i = 1) : Inv (itr (mvF 130 0 130 (361 * (i + 1))) 361 (cpT 1 (imO i) z.1), z.2) := by
  have ho : imO i = 91 + 19 * i := by unfold imO; split <;> omega
  have hd : 1 + 18 < imO i ∨ imO i + 18 < 1 := by omega
  obtain ⟨c1, c2⟩ := cpT_at hd z.1
  have hR : RTx z.1 (imO i) (361 * (i + 1)) := by
    obtain ⟨-, i0, i1, -⟩ := hI
    obtain rfl | rfl : i = 0 ∨ i = 1 := by omega
    · rcases i0.2 with q | q
      · rw [hk] at q
        exact absurd q (by decide)
      · exact q.2
    · rcases i1.2 with q | q
      · rw [hk] at q
        exact absurd q (by decide)
      · exact q.2
  obtain ⟨g, hg⟩ : ∃ g : Nat → Nat → Int32, g = itr (mvF 130 0 130 (361 * (i + 1))) 361 (cpT 1 (imO i) z.1) := ⟨_, rfl⟩
  have gr : ∀ r, r ≠ 130 → g r = cpT 1 (imO i) z.1 r := fun r h1 => by rw [hg, mv_r h1]
  have gs : ∀ x, g 130 x = if x < 361 then z.1 130 (361 * (i + 1) + x) else z.1 130 x := fun x => by
    rw [hg, mv_at _ 361 (by omega), c1 130 (by omega)]
    by_cases q : x < 361
    · rw [if_pos (by omega), if_pos q, Nat.sub_zero]
    · rw [if_neg (by omega), if_neg q]
  rw [← hg]
  refine Inv_upd (z := z) (RTx_c (fun j x hj => ?_) (fun x hx => ?_) hR) (fun r hr => ?_) (fun k hk => ?_) rfl rfl rfl hI
  · have := okI_le hj
    show g (j + 1) x = z.1 (j + imO i) x
    rw [gr _ (by omega)]
    exact c2 j x hj
  · show g 130 (x + 0) = z.1 130 (x + 361 * (i + 1))
    rw [gs, if_pos (by omega), show 361 * (i + 1) + (x + 0) = x + 361 * (i + 1) by omega]
  · show g r = z.1 r
    rw [gr r (by omega), c1 r (by omega)]
  · show g 130 k = z.1 130 k
    rw [gs, if_neg (by omega)]
theorem op_from (E : zE) (d : Nat) {z : zS} (hI : Inv z) (w : Int32) : OpI E (d + 2) 115 220 [.int w] z := by
  rcases inL_c (x := w) 0 1 m_d0 m_d1 (by decide) (by decide) with ⟨hv, i, -, hj, rfl⟩ | ⟨hv, hv2⟩
  · have w2 : (nI i < (2 : Int32)) = True := eq_true (nI_lt (b := 2) (by omega) (by decide))
    have ek : z.1 21 i = z.1 131 i ∧ (z.1 21 i = 0 ∨ z.1 21 i = 1) := by
      obtain ⟨-, i0, i1, -⟩ := hI
      obtain rfl | rfl : i = 0 ∨ i = 1 := by omega
      · exact ⟨i0.1, i0.2.imp id (fun q => q.1)⟩
      · exact ⟨i1.1, i1.2.imp id (fun q => q.1)⟩
    rcases ek.2 with k0 | k1
    · refine op_ref hI 1 (-3) (fun K => ?_) (fun z1 K hr e => ?_)
      · simp only [↓c_X8_from, ↓e_X8_from_0, ↓e_X8_from_4, ↓e_X8_from_9, ↓e_X8_from_17, ↓e_X8_from_18, ↓e_X8_from_22, ↓e_X8_from_24, ↓e_X8_from_27, ↓e_X8_from_35, ↓e_X8_from_36, ↓e_X8_from_40, ↓e_X8_from_44, ↓e_X8_from_46, ↓e_X8_from_49, nI_neg (show i < 2 ^ 31 by omega), w2, g8 o8_0, v8 o8_0, Nat.reduceAdd, rb_k z21 (show i < 2 by omega) (by decide), k0, x_no, zps_s, zk_i, zk_r, zk_n, ↓reduceIte]
      · have k0' : z1.1 131 i = 0 := by rw [hr 131 (by decide), ← ek.1]; exact k0
        simp only [↓c_X9_from, ↓e_X9_from_0, ↓e_X9_from_7, ↓e_X9_from_10, ↓e_X9_from_14, ↓e_X9_from_15, ↓e_X9_from_19, ↓e_X9_from_21, ↓e_X9_from_24, ↓e_X9_from_31, ↓e_X9_from_32, ↓e_X9_from_44, m_in, hv, zps_s, bI_0, g9 o9_129, v9 o9_129, Nat.reduceAdd, rb_k z131 (show i < 2 by omega) (by decide), k0', m_r1, zk_i, zk_r, zk_n, reduceCtorEq, ↓reduceIte]
    · refine ⟨1, (cpT 1 (imO i) z.1, z.2), _, fun K => ?_, fun K => ?_, Inv_fr hI (show i < 2 by omega) k1⟩
      · simp only [↓c_X8_from, ↓e_X8_from_0, ↓e_X8_from_4, ↓e_X8_from_9, ↓e_X8_from_17, ↓e_X8_from_18, ↓e_X8_from_22, ↓e_X8_from_24, ↓e_X8_from_27, ↓e_X8_from_35, ↓e_X8_from_36, ↓e_X8_from_40, ↓e_X8_from_44, ↓e_X8_from_46, ↓e_X8_from_49, nI_neg (show i < 2 ^ 31 by omega), w2, g8 o8_0, Nat.reduceAdd, ra20 (show i < 2 by omega), rb_k z21 (show i < 2 by omega) (by decide), k1, i01, v7 o7_1, t_copyOf isT_1 (isT_im (i := i)) (Ne.symm im_ne) E d z.1 z.2, zps_n, zk_i, zk_r, zk_n, ↓reduceIte, cpT]
      · have ec := m_copies E (d + 1) (a := 0) (b := 361 * (i + 1)) (by decide) (by omega) (cpT 1 (imO i) z.1) z.2
        rw [nI_0] at ec
        have k1' : cpT 1 (imO i) z.1 131 i = 1 := by
          have ho : imO i = 91 + 19 * i := by unfold imO; split <;> omega
          rw [(cpT_at (by omega) z.1).1 131 (by omega), ← ek.1]
          exact k1
        simp only [↓c_X9_from, ↓e_X9_from_0, ↓e_X9_from_7, ↓e_X9_from_10, ↓e_X9_from_14, ↓e_X9_from_15, ↓e_X9_from_19, ↓e_X9_from_21, ↓e_X9_from_24, ↓e_X9_from_31, ↓e_X9_from_32, ↓e_X9_from_44, m_in, hv, zps_s, bI_0, g9 o9_129, v9 o9_129, Nat.reduceAdd, rb_k z131 (show i < 2 by omega) (by decide), k1', i01, e361 (show i < 2 by omega), ec, zps_n, zk_i, zk_r, zk_n, reduceCtorEq, ↓reduceIte]
  · refine op_ref hI 0 (-2) (fun K => ?_) (fun z1 K hr e => ?_)
    · by_cases q : w < 0
      · simp only [↓c_X8_from, ↓e_X8_from_0, ↓e_X8_from_4, ↓e_X8_from_9, ↓e_X8_from_17, ↓e_X8_from_18, ↓e_X8_from_22, ↓e_X8_from_24, ↓e_X8_from_27, ↓e_X8_from_35, ↓e_X8_from_36, ↓e_X8_from_40, ↓e_X8_from_44, ↓e_X8_from_46, ↓e_X8_from_49, q, v8 o8_0, Nat.reduceAdd, x_bad, zps_s, zk_i, zk_r, zk_n, ↓reduceIte]
      · have q1 : (w < (2 : Int32)) = False := eq_false (fun q3 => by
          have := hv2.resolve_left q
          have e2 : (2 : Int32) = nI 2 := rfl
          rw [e2] at q3
          rw [Int32.lt_iff_toInt_lt, nI_toInt (by decide)] at q3 this
          omega)
        simp only [↓c_X8_from, ↓e_X8_from_0, ↓e_X8_from_4, ↓e_X8_from_9, ↓e_X8_from_17, ↓e_X8_from_18, ↓e_X8_from_22, ↓e_X8_from_24, ↓e_X8_from_27, ↓e_X8_from_35, ↓e_X8_from_36, ↓e_X8_from_40, ↓e_X8_from_44, ↓e_X8_from_46, ↓e_X8_from_49, q, q1, v8 o8_0, Nat.reduceAdd, x_bad, zps_s, zk_i, zk_r, zk_n, ↓reduceIte]
    · simp only [↓c_X9_from, ↓e_X9_from_0, ↓e_X9_from_7, ↓e_X9_from_10, ↓e_X9_from_14, ↓e_X9_from_15, ↓e_X9_from_19, ↓e_X9_from_21, ↓e_X9_from_24, ↓e_X9_from_31, ↓e_X9_from_32, ↓e_X9_from_44, v9 o9_129, m_in, hv, zps_s, bI_0, m_bad, zk_i, zk_r, zk_n, ↓reduceIte]
