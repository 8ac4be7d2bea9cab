/-! ODDS: the reference -/
theorem w_isWell (E : zE) (d : Nat) {nc : Nat} (hnc : nc ≤ 6) {v : Int32} (ho : orN v nc) (i : Nat) (h : zH) (K : Option Value → zH → Prop) : Cl E d 190 [.int v, .int (nI i)] h K = K (some (.int (bI (wlB nc (fun c => !i.testBit c) v)))) h := by
  rw [m_isWell]
  rcases ho with e | ⟨c, hc, e⟩
  · subst e
    rw [wl_m hnc]
    rfl
  · subst e
    have e1 : ¬ nI c = -1 := fun q => by
      have := congrArg Int32.toInt q
      rw [nI_toInt (by omega), show ((-1 : Int32)).toInt = -1 from by decide] at this
      omega
    rw [wl_n hnc hc, decide_eq_false e1]
    simp only [bit0 (show c < 32 by omega), bt_n (show c < 32 by omega)]
    cases i.testBit c <;> rfl
def RD (f : Nat → Nat → Int32) (nc np : Nat) (ca bh cm : Nat → Int32) (il : Nat → Nat) : Prop := f 130 105 = nI nc ∧ f 130 104 = nI np ∧ (∀ p, p < np → f 130 (18 + p) = ca p) ∧ (∀ p, p < np → f 130 (24 + p) = bh p) ∧ (∀ p, p < np → f 134 p = cm p) ∧ ∀ c, c < nc → f 130 (36 + 5 * c + 4) = nI (il c)
theorem RD_c {f f' : Nat → Nat → Int32} {nc np : Nat} {ca bh cm : Nat → Int32} {il : Nat → Nat} (h : ∀ a, a ≠ 135 → f' a = f a) (hD : RD f nc np ca bh cm il) : RD f' nc np ca bh cm il := by
  unfold RD
  rw [h 130 (by decide), h 134 (by decide)]
  exact hD
theorem n18 (p : Nat) : (18 : Int32) + nI p = nI (18 + p) := by rw [show (18 : Int32) = nI 18 from by decide, nI_add]
theorem n24 (p : Nat) : (24 : Int32) + nI p = nI (24 + p) := by rw [show (24 : Int32) = nI 24 from by decide, nI_add]
theorem n104 : (104 : Int32) = nI 104 := by decide
theorem n105 : (105 : Int32) = nI 105 := by decide
theorem nI_nm {c : Nat} (h : c < 2 ^ 31) : (nI c = -1) = False := eq_false (fun q => by
  have := congrArg Int32.toInt q
  rw [nI_toInt h, show ((-1 : Int32)).toInt = -1 from by decide] at this
  omega)
set_option maxRecDepth 100000 in
theorem m_goes (E : zE) (d : Nat) {nc np : Nat} (hnc : nc ≤ 6) (hnp : np ≤ 6) {ca bh cm : Nat → Int32} {IL : Nat → Nat} (hca : ∀ p, p < np → orN (ca p) nc) (hbh : ∀ p, p < np → orN (bh p) nc) {f : Nat → Nat → Int32} {t : (Nat → Nat → Int64) × Nat} (hD : RD f nc np ca bh cm IL) (x : Nat) : Hr E (d + 1) 191 [.ref 129, .int (nI x)] (f, t) (fun v z' => z'.2 = t ∧ (∀ a, a ≠ 135 → z'.1 a = f a) ∧ ∃ b : Bool, v = some (.int (bI b)) ∧ (b = true ↔ gdP nc np cm ca bh (fun c => !x.testBit c))) := by
  have n2 : np < 2 ^ 31 := by omega
  obtain ⟨w, hw⟩ : ∃ w : Nat → Bool, w = fun c => !x.testBit c := ⟨_, rfl⟩
  have xw : ∀ (f' : Nat → Nat → Int32) (K : Option Value → zH → Prop), ∀ v, orN v nc → Cl E d 190 [.int v, .int (nI x)] (HP (f', t)) K = K (some (.int (bI (wlB nc w v)))) (HP (f', t)) := fun f' K v ho => by
    rw [hw]
    exact w_isWell E d hnc ho x (HP (f', t)) K
  rw [← hw]
  obtain ⟨ply, hpl⟩ : ∃ g : Nat → Int32, g = plC nc w ca bh := ⟨_, rfl⟩
  have plo : ∀ p, p < np → orN (ply p) nc := fun p hp => by rw [hpl]; exact pl_or (hca p hp) (hbh p hp)
  unfold Hr gdP
  rw [← hpl]
  generalize hQ : (fun (v : Option Value) (h : zH) => ∃ z' : zS, h = HP z' ∧ (z'.2 = t ∧ (∀ a, a ≠ 135 → z'.1 a = f a) ∧ ∃ b : Bool, v = some (.int (bI b)) ∧ (b = true ↔ ((∀ p, p < np → wlB nc w (ply p) = true) ∧ ∀ a b, b < a → a < np → ply a = ply b → bt (cm a) b = false)))) = Q
  have st : ∀ f', (∀ a, a ≠ 135 → f' a = f a) → ∀ K, zri E (HP (f', t)) 130 (nI 104) K = K (nI np) := fun f' hf K => by
    rw [ri_k i130 (by decide) (by decide)]
    show K (f' 130 104) = K (nI np)
    rw [hf 130 (by decide), hD.2.1]
  have loopB : ∀ k a (f' : Nat → Nat → Int32) (ok : Bool) (y y2 : Option Value), a + k = np → (∀ a, a ≠ 135 → f' a = f a) → ((∀ p, p < np → wlB nc w (ply p) = true) → ∀ p, p < np → f' 135 p = ply p) → (ok = true ↔ (∀ p, p < np → wlB nc w (ply p) = true) ∧ ∀ a' b, b < a' → a' < a → ply a' = ply b → bt (cm a') b = false) → Ev E (d + 1) zm_X9_goes 100 [some (.ref 129), some (.int (nI x)), some (.int (bI ok)), some (.int (nI a)), y, y2] [] (HP (f', t)) Q := by
    intro k
    induction k with
    | zero =>
      intro a f' ok y y2 hak hf h135 hok
      have e : a = np := by omega
      subst e
      have q : Q (some (.int (bI ok))) (HP (f', t)) := by
        rw [← hQ]
        exact ⟨(f', t), rfl, rfl, hf, ok, rfl, hok⟩
      have s := st f' hf
      rw [e_X9_goes_100]
      simp only [↓e_X9_goes_9, ↓e_X9_goes_12, ↓e_X9_goes_15, ↓e_X9_goes_19, ↓e_X9_goes_24, ↓e_X9_goes_30, ↓e_X9_goes_35, ↓e_X9_goes_41, ↓e_X9_goes_48, ↓e_X9_goes_51, ↓e_X9_goes_56, ↓e_X9_goes_62, ↓e_X9_goes_65, ↓e_X9_goes_70, ↓e_X9_goes_71, ↓e_X9_goes_72, ↓e_X9_goes_76, ↓e_X9_goes_80, ↓e_X9_goes_82, ↓e_X9_goes_86, ↓e_X9_goes_90, ↓e_X9_goes_91, ↓e_X9_goes_98, ↓e_X9_goes_105, ↓e_X9_goes_108, ↓e_X9_goes_111, ↓e_X9_goes_120, ↓e_X9_goes_124, ↓e_X9_goes_128, ↓e_X9_goes_130, ↓e_X9_goes_134, ↓e_X9_goes_137, ↓e_X9_goes_140, ↓e_X9_goes_144, ↓e_X9_goes_146, ↓e_X9_goes_154, ↓e_X9_goes_158, ↓e_X9_goes_159, ↓e_X9_goes_166, ↓e_X9_goes_172, g9 o9_129, Nat.reduceAdd, n104, s, nI_lt_iff n2 n2, Nat.lt_irrefl, bI_01, true_and, zk_i, zk_r, zk_n, ↓reduceIte]
      exact q
    | succ k ihk =>
      intro a f' ok y y2 hak hf h135 hok
      have ha : a < np := by omega
      have hD' := RD_c hf hD
      have h134 := hD'.2.2.2.2.1 a ha
      have r134 := ri_k i134 (show a < 6 by omega) (by decide) E (f', t)
      have ra := ri_k i135 (show a < 6 by omega) (by decide) E (f', t)
      have inner : ∀ k b (ok : Bool), b + k = a → (ok = true ↔ ((∀ p, p < np → wlB nc w (ply p) = true) ∧ ∀ a' b, b < a' → a' < a → ply a' = ply b → bt (cm a') b = false) ∧ ∀ b', b' < b → ply a = ply b' → bt (cm a) b' = false) → Ev E (d + 1) zm_X9_goes 114 [some (.ref 129), some (.int (nI x)), some (.int (bI ok)), some (.int (nI a)), some (.int (nI b)), y2] [] (HP (f', t)) Q := by
        intro k
        induction k with
        | zero =>
          intro b ok hbk hok
          have e : b = a := by omega
          subst e
          have nx := ihk (b + 1) f' ok (some (.int (nI b))) y2 (by omega) hf h135 (by
            rw [hok]
            constructor
            · rintro ⟨⟨h1, h2⟩, h3⟩
              refine ⟨h1, fun a' b' q1 q2 q3 => ?_⟩
              by_cases e : a' = b
              · subst e
                exact h3 b' q1 q3
              · exact h2 a' b' q1 (by omega) q3
            · rintro ⟨h1, h2⟩
              exact ⟨⟨h1, fun a' b' q1 q2 q3 => h2 a' b' q1 (by omega) q3⟩, fun b' q1 q3 => h2 b b' q1 (by omega) q3⟩)
          rw [e_X9_goes_114]
          simp only [↓e_X9_goes_9, ↓e_X9_goes_12, ↓e_X9_goes_15, ↓e_X9_goes_19, ↓e_X9_goes_24, ↓e_X9_goes_30, ↓e_X9_goes_35, ↓e_X9_goes_41, ↓e_X9_goes_48, ↓e_X9_goes_51, ↓e_X9_goes_56, ↓e_X9_goes_62, ↓e_X9_goes_65, ↓e_X9_goes_70, ↓e_X9_goes_71, ↓e_X9_goes_72, ↓e_X9_goes_76, ↓e_X9_goes_80, ↓e_X9_goes_82, ↓e_X9_goes_86, ↓e_X9_goes_90, ↓e_X9_goes_91, ↓e_X9_goes_98, ↓e_X9_goes_105, ↓e_X9_goes_108, ↓e_X9_goes_111, ↓e_X9_goes_120, ↓e_X9_goes_124, ↓e_X9_goes_128, ↓e_X9_goes_130, ↓e_X9_goes_134, ↓e_X9_goes_137, ↓e_X9_goes_140, ↓e_X9_goes_144, ↓e_X9_goes_146, ↓e_X9_goes_154, ↓e_X9_goes_158, ↓e_X9_goes_159, ↓e_X9_goes_166, ↓e_X9_goes_172, nI_lt_iff (show b < 2 ^ 31 by omega) (show b < 2 ^ 31 by omega), Nat.lt_irrefl, nI_1, zk_i, zk_r, zk_n, ↓reduceIte]
          exact nx
        | succ k ihk2 =>
          intro b ok hbk hok
          have hb : b < a := by omega
          have rb := ri_k i135 (show b < 6 by omega) (by decide) E (f', t)
          have nx := fun ok' h => ihk2 (b + 1) ok' (by omega) h
          cases ok with
          | false =>
            have nx := nx false (by
              constructor
              · intro e
                exact absurd e (by decide)
              · rintro ⟨h1, h2⟩
                exact hok.mpr ⟨h1, fun b' q1 q2 => h2 b' (by omega) q2⟩)
            rw [e_X9_goes_114]
            simp only [↓e_X9_goes_9, ↓e_X9_goes_12, ↓e_X9_goes_15, ↓e_X9_goes_19, ↓e_X9_goes_24, ↓e_X9_goes_30, ↓e_X9_goes_35, ↓e_X9_goes_41, ↓e_X9_goes_48, ↓e_X9_goes_51, ↓e_X9_goes_56, ↓e_X9_goes_62, ↓e_X9_goes_65, ↓e_X9_goes_70, ↓e_X9_goes_71, ↓e_X9_goes_72, ↓e_X9_goes_76, ↓e_X9_goes_80, ↓e_X9_goes_82, ↓e_X9_goes_86, ↓e_X9_goes_90, ↓e_X9_goes_91, ↓e_X9_goes_98, ↓e_X9_goes_105, ↓e_X9_goes_108, ↓e_X9_goes_111, ↓e_X9_goes_120, ↓e_X9_goes_124, ↓e_X9_goes_128, ↓e_X9_goes_130, ↓e_X9_goes_134, ↓e_X9_goes_137, ↓e_X9_goes_140, ↓e_X9_goes_144, ↓e_X9_goes_146, ↓e_X9_goes_154, ↓e_X9_goes_158, ↓e_X9_goes_159, ↓e_X9_goes_166, ↓e_X9_goes_172, nI_lt_iff (show b < 2 ^ 31 by omega) (show a < 2 ^ 31 by omega), hb, bI_f, nI_1, zk_i, zk_r, zk_n, ↓reduceIte]
            exact nx
          | true =>
            obtain ⟨h1, h2⟩ := hok.mp rfl
            have ea := h135 h1.1 a ha
            have eb := h135 h1.1 b (by omega)
            by_cases q : ply a = ply b
            · cases hb' : bt (cm a) b with
              | true =>
                have nx := nx false (by
                  constructor
                  · intro e
                    exact absurd e (by decide)
                  · rintro ⟨-, h2⟩
                    have := h2 b (by omega) q
                    rw [hb'] at this
                    exact this.symm)
                have q' : (ply a = ply b) = True := eq_true q
                rw [e_X9_goes_114]
                simp only [↓e_X9_goes_9, ↓e_X9_goes_12, ↓e_X9_goes_15, ↓e_X9_goes_19, ↓e_X9_goes_24, ↓e_X9_goes_30, ↓e_X9_goes_35, ↓e_X9_goes_41, ↓e_X9_goes_48, ↓e_X9_goes_51, ↓e_X9_goes_56, ↓e_X9_goes_62, ↓e_X9_goes_65, ↓e_X9_goes_70, ↓e_X9_goes_71, ↓e_X9_goes_72, ↓e_X9_goes_76, ↓e_X9_goes_80, ↓e_X9_goes_82, ↓e_X9_goes_86, ↓e_X9_goes_90, ↓e_X9_goes_91, ↓e_X9_goes_98, ↓e_X9_goes_105, ↓e_X9_goes_108, ↓e_X9_goes_111, ↓e_X9_goes_120, ↓e_X9_goes_124, ↓e_X9_goes_128, ↓e_X9_goes_130, ↓e_X9_goes_134, ↓e_X9_goes_137, ↓e_X9_goes_140, ↓e_X9_goes_144, ↓e_X9_goes_146, ↓e_X9_goes_154, ↓e_X9_goes_158, ↓e_X9_goes_159, ↓e_X9_goes_166, ↓e_X9_goes_172, g9 o9_129, Nat.reduceAdd, nI_lt_iff (show b < 2 ^ 31 by omega) (show a < 2 ^ 31 by omega), hb, bI_t, i01, ra, rb, ea, eb, q', r134, h134, bit0 (show b < 32 by omega), hb', reduceCtorEq, nI_1, zk_i, zk_r, zk_n, ↓reduceIte]
                exact nx
              | false =>
                have nx := nx true (by
                  refine ⟨fun _ => ⟨h1, fun b' q1 q2 => ?_⟩, fun _ => rfl⟩
                  by_cases e : b' = b
                  · subst e
                    exact hb'
                  · exact h2 b' (by omega) q2)
                have q' : (ply a = ply b) = True := eq_true q
                rw [e_X9_goes_114]
                simp only [↓e_X9_goes_9, ↓e_X9_goes_12, ↓e_X9_goes_15, ↓e_X9_goes_19, ↓e_X9_goes_24, ↓e_X9_goes_30, ↓e_X9_goes_35, ↓e_X9_goes_41, ↓e_X9_goes_48, ↓e_X9_goes_51, ↓e_X9_goes_56, ↓e_X9_goes_62, ↓e_X9_goes_65, ↓e_X9_goes_70, ↓e_X9_goes_71, ↓e_X9_goes_72, ↓e_X9_goes_76, ↓e_X9_goes_80, ↓e_X9_goes_82, ↓e_X9_goes_86, ↓e_X9_goes_90, ↓e_X9_goes_91, ↓e_X9_goes_98, ↓e_X9_goes_105, ↓e_X9_goes_108, ↓e_X9_goes_111, ↓e_X9_goes_120, ↓e_X9_goes_124, ↓e_X9_goes_128, ↓e_X9_goes_130, ↓e_X9_goes_134, ↓e_X9_goes_137, ↓e_X9_goes_140, ↓e_X9_goes_144, ↓e_X9_goes_146, ↓e_X9_goes_154, ↓e_X9_goes_158, ↓e_X9_goes_159, ↓e_X9_goes_166, ↓e_X9_goes_172, g9 o9_129, Nat.reduceAdd, nI_lt_iff (show b < 2 ^ 31 by omega) (show a < 2 ^ 31 by omega), hb, bI_t, i01, ra, rb, ea, eb, q', r134, h134, bit0 (show b < 32 by omega), hb', nI_1, zk_i, zk_r, zk_n, ↓reduceIte]
                exact nx
            · have nx := nx true (by
                refine ⟨fun _ => ⟨h1, fun b' q1 q2 => ?_⟩, fun _ => rfl⟩
                by_cases e : b' = b
                · subst e
                  exact absurd q2 q
                · exact h2 b' (by omega) q2)
              rw [e_X9_goes_114]
              simp only [↓e_X9_goes_9, ↓e_X9_goes_12, ↓e_X9_goes_15, ↓e_X9_goes_19, ↓e_X9_goes_24, ↓e_X9_goes_30, ↓e_X9_goes_35, ↓e_X9_goes_41, ↓e_X9_goes_48, ↓e_X9_goes_51, ↓e_X9_goes_56, ↓e_X9_goes_62, ↓e_X9_goes_65, ↓e_X9_goes_70, ↓e_X9_goes_71, ↓e_X9_goes_72, ↓e_X9_goes_76, ↓e_X9_goes_80, ↓e_X9_goes_82, ↓e_X9_goes_86, ↓e_X9_goes_90, ↓e_X9_goes_91, ↓e_X9_goes_98, ↓e_X9_goes_105, ↓e_X9_goes_108, ↓e_X9_goes_111, ↓e_X9_goes_120, ↓e_X9_goes_124, ↓e_X9_goes_128, ↓e_X9_goes_130, ↓e_X9_goes_134, ↓e_X9_goes_137, ↓e_X9_goes_140, ↓e_X9_goes_144, ↓e_X9_goes_146, ↓e_X9_goes_154, ↓e_X9_goes_158, ↓e_X9_goes_159, ↓e_X9_goes_166, ↓e_X9_goes_172, g9 o9_129, Nat.reduceAdd, nI_lt_iff (show b < 2 ^ 31 by omega) (show a < 2 ^ 31 by omega), hb, bI_t, i01, ra, rb, ea, eb, q, nI_1, zk_i, zk_r, zk_n, ↓reduceIte]
              exact nx
      have start := inner a 0 ok (by omega) (by
        rw [hok]
        exact ⟨fun h => ⟨h, fun b' hb' => by omega⟩, fun h => h.1⟩)
      rw [nI_0] at start
      have s := st f' hf
      rw [e_X9_goes_100]
      simp only [↓e_X9_goes_9, ↓e_X9_goes_12, ↓e_X9_goes_15, ↓e_X9_goes_19, ↓e_X9_goes_24, ↓e_X9_goes_30, ↓e_X9_goes_35, ↓e_X9_goes_41, ↓e_X9_goes_48, ↓e_X9_goes_51, ↓e_X9_goes_56, ↓e_X9_goes_62, ↓e_X9_goes_65, ↓e_X9_goes_70, ↓e_X9_goes_71, ↓e_X9_goes_72, ↓e_X9_goes_76, ↓e_X9_goes_80, ↓e_X9_goes_82, ↓e_X9_goes_86, ↓e_X9_goes_90, ↓e_X9_goes_91, ↓e_X9_goes_98, ↓e_X9_goes_105, ↓e_X9_goes_108, ↓e_X9_goes_111, ↓e_X9_goes_120, ↓e_X9_goes_124, ↓e_X9_goes_128, ↓e_X9_goes_130, ↓e_X9_goes_134, ↓e_X9_goes_137, ↓e_X9_goes_140, ↓e_X9_goes_144, ↓e_X9_goes_146, ↓e_X9_goes_154, ↓e_X9_goes_158, ↓e_X9_goes_159, ↓e_X9_goes_166, ↓e_X9_goes_172, g9 o9_129, Nat.reduceAdd, n104, s, nI_lt_iff (show a < 2 ^ 31 by omega) n2, ha, zk_i, zk_r, zk_n, ↓reduceIte]
      exact start
  have loopA : ∀ k p (f' : Nat → Nat → Int32) (ok : Bool) (y y2 : Option Value), p + k = np → (∀ a, a ≠ 135 → f' a = f a) → (∀ q, q < p → f' 135 q = if wlB nc w (ply q) = true then ply q else -1) → (ok = true ↔ ∀ q, q < p → wlB nc w (ply q) = true) → Ev E (d + 1) zm_X9_goes 4 [some (.ref 129), some (.int (nI x)), some (.int (bI ok)), some (.int (nI p)), y, y2] [] (HP (f', t)) Q := by
    intro k
    induction k with
    | zero =>
      intro p f' ok y y2 hpk hf h135 hok
      have e : p = np := by omega
      subst e
      have nx := loopB p 0 f' ok y y2 (by omega) hf (fun h q hq => by rw [h135 q hq, if_pos (h q hq)]) (by
        rw [hok]
        exact ⟨fun h => ⟨h, fun a' b q1 q2 => by omega⟩, fun h => h.1⟩)
      rw [nI_0] at nx
      have s := st f' hf
      rw [e_X9_goes_4]
      simp only [↓e_X9_goes_9, ↓e_X9_goes_12, ↓e_X9_goes_15, ↓e_X9_goes_19, ↓e_X9_goes_24, ↓e_X9_goes_30, ↓e_X9_goes_35, ↓e_X9_goes_41, ↓e_X9_goes_48, ↓e_X9_goes_51, ↓e_X9_goes_56, ↓e_X9_goes_62, ↓e_X9_goes_65, ↓e_X9_goes_70, ↓e_X9_goes_71, ↓e_X9_goes_72, ↓e_X9_goes_76, ↓e_X9_goes_80, ↓e_X9_goes_82, ↓e_X9_goes_86, ↓e_X9_goes_90, ↓e_X9_goes_91, ↓e_X9_goes_98, ↓e_X9_goes_105, ↓e_X9_goes_108, ↓e_X9_goes_111, ↓e_X9_goes_120, ↓e_X9_goes_124, ↓e_X9_goes_128, ↓e_X9_goes_130, ↓e_X9_goes_134, ↓e_X9_goes_137, ↓e_X9_goes_140, ↓e_X9_goes_144, ↓e_X9_goes_146, ↓e_X9_goes_154, ↓e_X9_goes_158, ↓e_X9_goes_159, ↓e_X9_goes_166, ↓e_X9_goes_172, g9 o9_129, Nat.reduceAdd, n104, s, nI_lt_iff n2 n2, Nat.lt_irrefl, zk_i, zk_r, zk_n, ↓reduceIte]
      exact nx
    | succ k ihk =>
      intro p f' ok y y2 hpk hf h135 hok
      have hp : p < np := by omega
      have hD' := RD_c hf hD
      have ec := hD'.2.2.1 p hp
      have eb := hD'.2.2.2.1 p hp
      have rc := ri_k i130 (show 18 + p < 1083 by omega) (by decide) E (f', t)
      have rb := ri_k i130 (show 24 + p < 1083 by omega) (by decide) E (f', t)
      have l := xw f'
      have s := st f' hf
      have main : ∀ v, v = (if wlB nc w (ply p) = true then ply p else -1) → Ev E (d + 1) zm_X9_goes 71 [some (.ref 129), some (.int (nI x)), some (.int (bI ok)), some (.int (nI p)), some (.int (ca p)), some (.int (bh p))] [.int v, .int (nI p), .ref 135] (HP (f', t)) Q := fun v ev => by
        obtain ⟨f2, hf2⟩ : ∃ g : Nat → Nat → Int32, g = set2 f' 135 p v := ⟨_, rfl⟩
        have w135 := wi_k i135 (show p < 6 by omega) (by decide) (f', t) v
        dsimp only at w135
        rw [← hf2] at w135
        have r135 := ri_k i135 (show p < 6 by omega) (by decide) E (f2, t)
        have h2 : f2 135 p = v := by rw [hf2, set2_s]
        have nx := fun ok' h => ihk (p + 1) f2 ok' (some (.int (ca p))) (some (.int (bh p))) (by omega) (fun a ha => by rw [hf2, set2_a ha]; exact hf a ha) (fun q hq => by
          by_cases e : q = p
          · subst e
            rw [hf2, set2_s]
            exact ev
          · rw [hf2, set2_n (Or.inr e)]
            exact h135 q (by omega)) h
        cases hv : wlB nc w (ply p) with
        | false =>
          have ev2 : (v = -1) = True := eq_true (by rw [ev, if_neg (by rw [hv]; decide)])
          have nx := nx false (by
            refine ⟨fun e => absurd e (by decide), fun h => ?_⟩
            have := h p (by omega)
            rw [hv] at this
            exact this)
          cases ok with
          | false =>
            rw [e_X9_goes_71]
            simp only [↓e_X9_goes_9, ↓e_X9_goes_12, ↓e_X9_goes_15, ↓e_X9_goes_19, ↓e_X9_goes_24, ↓e_X9_goes_30, ↓e_X9_goes_35, ↓e_X9_goes_41, ↓e_X9_goes_48, ↓e_X9_goes_51, ↓e_X9_goes_56, ↓e_X9_goes_62, ↓e_X9_goes_65, ↓e_X9_goes_70, ↓e_X9_goes_72, ↓e_X9_goes_76, ↓e_X9_goes_80, ↓e_X9_goes_82, ↓e_X9_goes_86, ↓e_X9_goes_90, ↓e_X9_goes_91, ↓e_X9_goes_98, ↓e_X9_goes_105, ↓e_X9_goes_108, ↓e_X9_goes_111, ↓e_X9_goes_120, ↓e_X9_goes_124, ↓e_X9_goes_128, ↓e_X9_goes_130, ↓e_X9_goes_134, ↓e_X9_goes_137, ↓e_X9_goes_140, ↓e_X9_goes_144, ↓e_X9_goes_146, ↓e_X9_goes_154, ↓e_X9_goes_158, ↓e_X9_goes_159, ↓e_X9_goes_166, ↓e_X9_goes_172, w135, bI_f, nI_1, zk_i, zk_r, zk_n, ↓reduceIte]
            exact nx
          | true =>
            rw [e_X9_goes_71]
            simp only [↓e_X9_goes_9, ↓e_X9_goes_12, ↓e_X9_goes_15, ↓e_X9_goes_19, ↓e_X9_goes_24, ↓e_X9_goes_30, ↓e_X9_goes_35, ↓e_X9_goes_41, ↓e_X9_goes_48, ↓e_X9_goes_51, ↓e_X9_goes_56, ↓e_X9_goes_62, ↓e_X9_goes_65, ↓e_X9_goes_70, ↓e_X9_goes_72, ↓e_X9_goes_76, ↓e_X9_goes_80, ↓e_X9_goes_82, ↓e_X9_goes_86, ↓e_X9_goes_90, ↓e_X9_goes_91, ↓e_X9_goes_98, ↓e_X9_goes_105, ↓e_X9_goes_108, ↓e_X9_goes_111, ↓e_X9_goes_120, ↓e_X9_goes_124, ↓e_X9_goes_128, ↓e_X9_goes_130, ↓e_X9_goes_134, ↓e_X9_goes_137, ↓e_X9_goes_140, ↓e_X9_goes_144, ↓e_X9_goes_146, ↓e_X9_goes_154, ↓e_X9_goes_158, ↓e_X9_goes_159, ↓e_X9_goes_166, ↓e_X9_goes_172, g9 o9_129, Nat.reduceAdd, w135, r135, h2, ev2, bI_t, i01, nI_1, zk_i, zk_r, zk_n, ↓reduceIte]
            exact nx
        | true =>
          obtain ⟨c, hc, ecc, -⟩ := wl_o hnc (plo p hp) hv
          have ev2 : (v = -1) = False := by
            rw [ev, if_pos hv, ecc]
            exact nI_nm (by omega)
          have nx := nx ok (by
            rw [hok]
            refine ⟨fun h q hq => ?_, fun h q hq => h q (by omega)⟩
            by_cases e : q = p
            · subst e
              exact hv
            · exact h q (by omega))
          cases ok with
          | false =>
            rw [e_X9_goes_71]
            simp only [↓e_X9_goes_9, ↓e_X9_goes_12, ↓e_X9_goes_15, ↓e_X9_goes_19, ↓e_X9_goes_24, ↓e_X9_goes_30, ↓e_X9_goes_35, ↓e_X9_goes_41, ↓e_X9_goes_48, ↓e_X9_goes_51, ↓e_X9_goes_56, ↓e_X9_goes_62, ↓e_X9_goes_65, ↓e_X9_goes_70, ↓e_X9_goes_72, ↓e_X9_goes_76, ↓e_X9_goes_80, ↓e_X9_goes_82, ↓e_X9_goes_86, ↓e_X9_goes_90, ↓e_X9_goes_91, ↓e_X9_goes_98, ↓e_X9_goes_105, ↓e_X9_goes_108, ↓e_X9_goes_111, ↓e_X9_goes_120, ↓e_X9_goes_124, ↓e_X9_goes_128, ↓e_X9_goes_130, ↓e_X9_goes_134, ↓e_X9_goes_137, ↓e_X9_goes_140, ↓e_X9_goes_144, ↓e_X9_goes_146, ↓e_X9_goes_154, ↓e_X9_goes_158, ↓e_X9_goes_159, ↓e_X9_goes_166, ↓e_X9_goes_172, w135, bI_f, nI_1, zk_i, zk_r, zk_n, ↓reduceIte]
            exact nx
          | true =>
            rw [e_X9_goes_71]
            simp only [↓e_X9_goes_9, ↓e_X9_goes_12, ↓e_X9_goes_15, ↓e_X9_goes_19, ↓e_X9_goes_24, ↓e_X9_goes_30, ↓e_X9_goes_35, ↓e_X9_goes_41, ↓e_X9_goes_48, ↓e_X9_goes_51, ↓e_X9_goes_56, ↓e_X9_goes_62, ↓e_X9_goes_65, ↓e_X9_goes_70, ↓e_X9_goes_72, ↓e_X9_goes_76, ↓e_X9_goes_80, ↓e_X9_goes_82, ↓e_X9_goes_86, ↓e_X9_goes_90, ↓e_X9_goes_91, ↓e_X9_goes_98, ↓e_X9_goes_105, ↓e_X9_goes_108, ↓e_X9_goes_111, ↓e_X9_goes_120, ↓e_X9_goes_124, ↓e_X9_goes_128, ↓e_X9_goes_130, ↓e_X9_goes_134, ↓e_X9_goes_137, ↓e_X9_goes_140, ↓e_X9_goes_144, ↓e_X9_goes_146, ↓e_X9_goes_154, ↓e_X9_goes_158, ↓e_X9_goes_159, ↓e_X9_goes_166, ↓e_X9_goes_172, g9 o9_129, Nat.reduceAdd, w135, r135, h2, ev2, bI_t, i01, nI_1, zk_i, zk_r, zk_n, ↓reduceIte]
            exact nx
      cases h1 : wlB nc w (ca p) with
      | true =>
        have ep : ply p = ca p := by rw [hpl]; unfold plC; rw [if_pos h1]
        have m := main (ca p) (by rw [ep, if_pos h1])
        rw [e_X9_goes_4]
        simp only [↓e_X9_goes_9, ↓e_X9_goes_12, ↓e_X9_goes_15, ↓e_X9_goes_19, ↓e_X9_goes_24, ↓e_X9_goes_30, ↓e_X9_goes_35, ↓e_X9_goes_41, ↓e_X9_goes_48, ↓e_X9_goes_51, ↓e_X9_goes_56, ↓e_X9_goes_62, ↓e_X9_goes_65, ↓e_X9_goes_70, ↓e_X9_goes_72, ↓e_X9_goes_76, ↓e_X9_goes_80, ↓e_X9_goes_82, ↓e_X9_goes_86, ↓e_X9_goes_90, ↓e_X9_goes_91, ↓e_X9_goes_98, ↓e_X9_goes_105, ↓e_X9_goes_108, ↓e_X9_goes_111, ↓e_X9_goes_120, ↓e_X9_goes_124, ↓e_X9_goes_128, ↓e_X9_goes_130, ↓e_X9_goes_134, ↓e_X9_goes_137, ↓e_X9_goes_140, ↓e_X9_goes_144, ↓e_X9_goes_146, ↓e_X9_goes_154, ↓e_X9_goes_158, ↓e_X9_goes_159, ↓e_X9_goes_166, ↓e_X9_goes_172, g9 o9_129, Nat.reduceAdd, n104, s, n18, n24, rc, rb, ec, eb, l _ _ (hca p hp), h1, nI_lt_iff (show p < 2 ^ 31 by omega) n2, hp, zps_s, bI_t, i01, zk_i, zk_r, zk_n, ↓reduceIte]
        exact m
      | false =>
        have ep : ply p = bh p := by rw [hpl]; unfold plC; rw [if_neg (by rw [h1]; decide)]
        cases h2 : wlB nc w (bh p) with
        | true =>
          have m := main (bh p) (by rw [ep, if_pos h2])
          rw [e_X9_goes_4]
          simp only [↓e_X9_goes_9, ↓e_X9_goes_12, ↓e_X9_goes_15, ↓e_X9_goes_19, ↓e_X9_goes_24, ↓e_X9_goes_30, ↓e_X9_goes_35, ↓e_X9_goes_41, ↓e_X9_goes_48, ↓e_X9_goes_51, ↓e_X9_goes_56, ↓e_X9_goes_62, ↓e_X9_goes_65, ↓e_X9_goes_70, ↓e_X9_goes_72, ↓e_X9_goes_76, ↓e_X9_goes_80, ↓e_X9_goes_82, ↓e_X9_goes_86, ↓e_X9_goes_90, ↓e_X9_goes_91, ↓e_X9_goes_98, ↓e_X9_goes_105, ↓e_X9_goes_108, ↓e_X9_goes_111, ↓e_X9_goes_120, ↓e_X9_goes_124, ↓e_X9_goes_128, ↓e_X9_goes_130, ↓e_X9_goes_134, ↓e_X9_goes_137, ↓e_X9_goes_140, ↓e_X9_goes_144, ↓e_X9_goes_146, ↓e_X9_goes_154, ↓e_X9_goes_158, ↓e_X9_goes_159, ↓e_X9_goes_166, ↓e_X9_goes_172, g9 o9_129, Nat.reduceAdd, n104, s, n18, n24, rc, rb, ec, eb, l _ _ (hca p hp), l _ _ (hbh p hp), h1, h2, nI_lt_iff (show p < 2 ^ 31 by omega) n2, hp, zps_s, bI_t, bI_f, i01, zk_i, zk_r, zk_n, ↓reduceIte]
          exact m
        | false =>
          have m := main (-1) (by rw [ep, if_neg (by rw [h2]; decide)])
          rw [e_X9_goes_4]
          simp only [↓e_X9_goes_9, ↓e_X9_goes_12, ↓e_X9_goes_15, ↓e_X9_goes_19, ↓e_X9_goes_24, ↓e_X9_goes_30, ↓e_X9_goes_35, ↓e_X9_goes_41, ↓e_X9_goes_48, ↓e_X9_goes_51, ↓e_X9_goes_56, ↓e_X9_goes_62, ↓e_X9_goes_65, ↓e_X9_goes_70, ↓e_X9_goes_72, ↓e_X9_goes_76, ↓e_X9_goes_80, ↓e_X9_goes_82, ↓e_X9_goes_86, ↓e_X9_goes_90, ↓e_X9_goes_91, ↓e_X9_goes_98, ↓e_X9_goes_105, ↓e_X9_goes_108, ↓e_X9_goes_111, ↓e_X9_goes_120, ↓e_X9_goes_124, ↓e_X9_goes_128, ↓e_X9_goes_130, ↓e_X9_goes_134, ↓e_X9_goes_137, ↓e_X9_goes_140, ↓e_X9_goes_144, ↓e_X9_goes_146, ↓e_X9_goes_154, ↓e_X9_goes_158, ↓e_X9_goes_159, ↓e_X9_goes_166, ↓e_X9_goes_172, g9 o9_129, Nat.reduceAdd, n104, s, n18, n24, rc, rb, ec, eb, l _ _ (hca p hp), l _ _ (hbh p hp), h1, h2, nI_lt_iff (show p < 2 ^ 31 by omega) n2, hp, zps_s, bI_f, zk_i, zk_r, zk_n, ↓reduceIte]
          exact m
  have start := loopA np 0 f true none none (by omega) (fun _ _ => rfl) (fun q hq => by omega) ⟨fun _ q hq => by omega, fun _ => rfl⟩
  rw [nI_0] at start
  simp only [↓c_X9_goes, ↓e_X9_goes_0, ↓e_X9_goes_9, ↓e_X9_goes_12, ↓e_X9_goes_15, ↓e_X9_goes_19, ↓e_X9_goes_24, ↓e_X9_goes_30, ↓e_X9_goes_35, ↓e_X9_goes_41, ↓e_X9_goes_48, ↓e_X9_goes_51, ↓e_X9_goes_56, ↓e_X9_goes_62, ↓e_X9_goes_65, ↓e_X9_goes_70, ↓e_X9_goes_72, ↓e_X9_goes_76, ↓e_X9_goes_80, ↓e_X9_goes_82, ↓e_X9_goes_86, ↓e_X9_goes_90, ↓e_X9_goes_91, ↓e_X9_goes_98, ↓e_X9_goes_105, ↓e_X9_goes_108, ↓e_X9_goes_111, ↓e_X9_goes_120, ↓e_X9_goes_124, ↓e_X9_goes_128, ↓e_X9_goes_130, ↓e_X9_goes_134, ↓e_X9_goes_137, ↓e_X9_goes_140, ↓e_X9_goes_144, ↓e_X9_goes_146, ↓e_X9_goes_154, ↓e_X9_goes_158, ↓e_X9_goes_159, ↓e_X9_goes_166, ↓e_X9_goes_172, zk_i, zk_r, zk_n]
  exact start
