/-! ODDS: numbers; who is well, and whether it goes -/
def wlB (nc : Nat) (w : Nat → Bool) (v : Int32) : Bool := inB v (nI nc) && w v.toNatClampNeg
def plC (nc : Nat) (w : Nat → Bool) (ca bh : Nat → Int32) (p : Nat) : Int32 := if wlB nc w (ca p) = true then ca p else bh p
def gdP (nc np : Nat) (cm ca bh : Nat → Int32) (w : Nat → Bool) : Prop := (∀ p, p < np → wlB nc w (plC nc w ca bh p) = true) ∧ ∀ a b, b < a → a < np → plC nc w ca bh a = plC nc w ca bh b → bt (cm a) b = false
theorem wl_n {nc c : Nat} (hnc : nc ≤ 6) (hc : c < nc) (w : Nat → Bool) : wlB nc w (nI c) = w c := by
  unfold wlB
  rw [inB_nI (by omega) (by omega), decide_eq_true hc, nI_cl (by omega), Bool.true_and]
theorem wl_m {nc : Nat} (hnc : nc ≤ 6) (w : Nat → Bool) : wlB nc w (-1) = false := by
  unfold wlB
  have : inB (-1) (nI nc) = false := by
    unfold inB
    rw [show decide ((-1 : Int32) < 0) = true from by decide]
    rfl
  rw [this, Bool.false_and]
theorem wl_o {nc : Nat} (hnc : nc ≤ 6) {w : Nat → Bool} {v : Int32} (ho : orN v nc) (h : wlB nc w v = true) : ∃ c, c < nc ∧ v = nI c ∧ w c = true := by
  rcases ho with e | ⟨c, hc, e⟩
  · subst e
    rw [wl_m hnc] at h
    exact absurd h (by decide)
  · subst e
    rw [wl_n hnc hc] at h
    exact ⟨c, hc, rfl, h⟩
theorem bt_n {x c : Nat} (hc : c < 32) : bt (nI x) c = x.testBit c := by
  unfold bt
  show (BitVec.ofNat 32 x).getLsbD c = x.testBit c
  rw [BitVec.getLsbD_ofNat, decide_eq_true hc, Bool.true_and]
theorem wl_c {nc : Nat} (hnc : nc ≤ 6) {w w' : Nat → Bool} (h : ∀ c, c < nc → w c = w' c) {v : Int32} (ho : orN v nc) : wlB nc w v = wlB nc w' v := by
  rcases ho with e | ⟨c, hc, e⟩
  · subst e
    rw [wl_m hnc, wl_m hnc]
  · subst e
    rw [wl_n hnc hc, wl_n hnc hc, h c hc]
theorem pl_or {nc p : Nat} {w : Nat → Bool} {ca bh : Nat → Int32} (h1 : orN (ca p) nc) (h2 : orN (bh p) nc) : orN (plC nc w ca bh p) nc := by
  unfold plC
  split
  · exact h1
  · exact h2
theorem gd_c {nc np : Nat} (hnc : nc ≤ 6) {cm ca bh : Nat → Int32} (hca : ∀ p, p < np → orN (ca p) nc) (hbh : ∀ p, p < np → orN (bh p) nc) {w w' : Nat → Bool} (h : ∀ c, c < nc → w c = w' c) : gdP nc np cm ca bh w ↔ gdP nc np cm ca bh w' := by
  have e : ∀ p, p < np → plC nc w ca bh p = plC nc w' ca bh p := fun p hp => by
    unfold plC
    rw [wl_c hnc h (hca p hp)]
  unfold gdP
  constructor
  · rintro ⟨a, b⟩
    exact ⟨fun p hp => by rw [← e p hp, ← wl_c hnc h (pl_or (hca p hp) (hbh p hp))]; exact a p hp, fun x y h1 h2 h3 => b x y h1 h2 (by rw [e x h2, e y (by omega)]; exact h3)⟩
  · rintro ⟨a, b⟩
    exact ⟨fun p hp => by rw [e p hp, wl_c hnc h (pl_or (hca p hp) (hbh p hp))]; exact a p hp, fun x y h1 h2 h3 => b x y h1 h2 (by rw [← e x h2, ← e y (by omega)]; exact h3)⟩
theorem i71 : isI 71 6 := rfl
theorem i72 : isI 72 6 := rfl
theorem i73 : isI 73 6 := rfl
theorem i74 : isI 74 6 := rfl
theorem i67 : isI 67 6 := rfl
theorem x_isWell (E : zE) (d : Nat) {nc : Nat} (hnc : nc ≤ 6) {z : zS} (hz : z.1 59 4 = nI nc) {v : Int32} (ho : orN v nc) (x : Nat) (K : Option Value → zH → Prop) : Cl E (d + 1) 20 [.ref 58, .int v, .int (nI x)] (HP z) K = K (some (.int (bI (wlB nc (fun c => x.testBit c) v)))) (HP z) := by
  rcases ho with e | ⟨c, hc, e⟩
  · subst e
    have e1 : inB (-1) (nI nc) = false := by
      unfold inB
      rw [show decide ((-1 : Int32) < 0) = true from by decide]
      rfl
    rw [wl_m hnc]
    simp only [↓c_X1_isWell, ↓e_X1_isWell_0, ↓e_X1_isWell_4, ↓e_X1_isWell_8, ↓e_X1_isWell_11, ↓e_X1_isWell_19, ↓e_X1_isWell_23, ↓e_X1_isWell_24, g1 o1_58, v6 o6_59, Nat.reduceAdd, s_hasChild o6_59, hz, e1, zps_s, bI_0, bI_f, true_or, true_and, zk_i, zk_r, zk_n, ↓reduceIte]
  · subst e
    have e1 : inB (nI c) (nI nc) = true := by rw [inB_nI (by omega) (by omega), decide_eq_true hc]
    rw [wl_n hnc hc]
    cases hb : x.testBit c with
    | false =>
      simp only [↓c_X1_isWell, ↓e_X1_isWell_0, ↓e_X1_isWell_4, ↓e_X1_isWell_8, ↓e_X1_isWell_11, ↓e_X1_isWell_19, ↓e_X1_isWell_23, ↓e_X1_isWell_24, g1 o1_58, v6 o6_59, Nat.reduceAdd, s_hasChild o6_59, hz, e1, zps_s, bI_0, bI_f, bit0 (show c < 32 by omega), bt_n (show c < 32 by omega), hb, reduceCtorEq, true_or, true_and, zk_i, zk_r, zk_n, ↓reduceIte]
    | true =>
      simp only [↓c_X1_isWell, ↓e_X1_isWell_0, ↓e_X1_isWell_4, ↓e_X1_isWell_8, ↓e_X1_isWell_11, ↓e_X1_isWell_19, ↓e_X1_isWell_23, ↓e_X1_isWell_24, g1 o1_58, v6 o6_59, Nat.reduceAdd, s_hasChild o6_59, hz, e1, zps_s, bI_t, i01, bit0 (show c < 32 by omega), bt_n (show c < 32 by omega), hb, reduceCtorEq, or_true, true_and, zk_i, zk_r, zk_n, ↓reduceIte]
def CD (f : Nat → Nat → Int32) (nc np : Nat) (ca bh cm il : Nat → Int32) : Prop := f 59 4 = nI nc ∧ f 59 0 = nI np ∧ (∀ p, p < np → f 71 p = ca p) ∧ (∀ p, p < np → f 72 p = bh p) ∧ (∀ p, p < np → f 73 p = cm p) ∧ ∀ c, c < nc → f 67 c = il c
theorem CD_c {f f' : Nat → Nat → Int32} {nc np : Nat} {ca bh cm il : Nat → Int32} (h : ∀ a, a ≠ 74 → f' a = f a) (hD : CD f nc np ca bh cm il) : CD f' nc np ca bh cm il := by
  unfold CD
  rw [h 59 (by decide), h 71 (by decide), h 72 (by decide), h 73 (by decide), h 67 (by decide)]
  exact hD
set_option maxRecDepth 100000 in
theorem x_goes (E : zE) (d : Nat) {nc np : Nat} (hnc : nc ≤ 6) (hnp : np ≤ 6) {ca bh cm il : Nat → Int32} (hca : ∀ p, p < np → orN (ca p) nc) (hbh : ∀ p, p < np → orN (bh p) nc) {f : Nat → Nat → Int32} {t : (Nat → Nat → Int64) × Nat} (hD : CD f nc np ca bh cm il) (x : Nat) : Hr E (d + 2) 19 [.ref 58, .int (nI x)] (f, t) (fun v z' => z'.2 = t ∧ (∀ a, a ≠ 74 → z'.1 a = f a) ∧ ∃ b : Bool, v = some (.int (bI b)) ∧ (b = true ↔ gdP nc np cm ca bh (fun c => x.testBit c))) := by
  have n1 : nc < 2 ^ 31 := by omega
  have n2 : np < 2 ^ 31 := by omega
  obtain ⟨w, hw⟩ : ∃ w : Nat → Bool, w = fun c => x.testBit c := ⟨_, rfl⟩
  have xw : ∀ (f' : Nat → Nat → Int32) (K : Option Value → zH → Prop), (∀ a, a ≠ 74 → f' a = f a) → ∀ v, orN v nc → Cl E (d + 1) 20 [.ref 58, .int v, .int (nI x)] (HP (f', t)) K = K (some (.int (bI (wlB nc w v)))) (HP (f', t)) := fun f' K hf v ho => by
    rw [hw]
    exact x_isWell E d hnc (z := (f', t)) (by show f' 59 4 = nI nc; rw [hf 59 (by decide)]; exact hD.1) ho x K
  rw [← hw]
  obtain ⟨ply, hpl⟩ : ∃ g : Nat → Int32, g = plC nc w ca bh := ⟨_, rfl⟩
  have plo : ∀ p, p < np → orN (ply p) nc := fun p hp => by rw [hpl]; exact pl_or (hca p hp) (hbh p hp)
  unfold Hr gdP
  rw [← hpl]
  generalize hQ : (fun (v : Option Value) (h : zH) => ∃ z' : zS, h = HP z' ∧ (z'.2 = t ∧ (∀ a, a ≠ 74 → z'.1 a = f a) ∧ ∃ b : Bool, v = some (.int (bI b)) ∧ (b = true ↔ ((∀ p, p < np → wlB nc w (ply p) = true) ∧ ∀ a b, b < a → a < np → ply a = ply b → bt (cm a) b = false)))) = Q
  have no : ∀ f' : Nat → Nat → Int32, (∀ a, a ≠ 74 → f' a = f a) → ¬ ((∀ p, p < np → wlB nc w (ply p) = true) ∧ ∀ a b, b < a → a < np → ply a = ply b → bt (cm a) b = false) → Q (some (.int 0)) (HP (f', t)) := fun f' hf h => by
    rw [← hQ]
    exact ⟨(f', t), rfl, rfl, hf, false, rfl, ⟨fun e => absurd e (by decide), fun e => absurd e h⟩⟩
  have loop2 : ∀ k i (f' : Nat → Nat → Int32) (y : Option Value), i + k = np → (∀ a, a ≠ 74 → f' a = f a) → (∀ c, c < nc → ∀ j, j < 32 → bt (f' 74 c) j = (decide (j < i) && decide (ply j = nI c))) → (∀ p, p < i → wlB nc w (ply p) = true) → (∀ a b, b < a → a < i → ply a = ply b → bt (cm a) b = false) → Ev E (d + 2) zm_X1_goes 28 [some (.ref 58), some (.int (nI x)), some (.int (nI i)), y] [] (HP (f', t)) Q := by
    intro k
    induction k with
    | zero =>
      intro i f' y hik hf h74 g1' g2'
      have e : i = np := by omega
      subst e
      have hD' := CD_c hf hD
      have q : Q (some (.int 1)) (HP (f', t)) := by
        rw [← hQ]
        exact ⟨(f', t), rfl, rfl, hf, true, rfl, ⟨fun _ => ⟨g1', g2'⟩, fun _ => rfl⟩⟩
      rw [e_X1_goes_28]
      simp only [↓e_X1_goes_7, ↓e_X1_goes_10, ↓e_X1_goes_13, ↓e_X1_goes_17, ↓e_X1_goes_20, ↓e_X1_goes_26, ↓e_X1_goes_33, ↓e_X1_goes_36, ↓e_X1_goes_39, ↓e_X1_goes_44, ↓e_X1_goes_46, ↓e_X1_goes_50, ↓e_X1_goes_53, ↓e_X1_goes_57, ↓e_X1_goes_59, ↓e_X1_goes_62, ↓e_X1_goes_66, ↓e_X1_goes_68, ↓e_X1_goes_75, ↓e_X1_goes_78, ↓e_X1_goes_82, ↓e_X1_goes_84, ↓e_X1_goes_88, ↓e_X1_goes_90, ↓e_X1_goes_94, ↓e_X1_goes_96, ↓e_X1_goes_100, ↓e_X1_goes_103, ↓e_X1_goes_108, ↓e_X1_goes_114, g1 o1_58, g6 o6_59, Nat.reduceAdd, hD'.2.1, nI_lt_iff n2 n2, Nat.lt_irrefl, or_true, true_and, zk_i, zk_r, zk_n, ↓reduceIte]
      exact q
    | succ k ihk =>
      intro i f' y hik hf h74 g1' g2'
      have hi : i < np := by omega
      have hD' := CD_c hf hD
      have main : ∀ v, v = ply i → Ev E (d + 2) zm_X1_goes 68 [some (.ref 58), some (.int (nI x)), some (.int (nI i)), y] [.int v] (HP (f', t)) Q := fun v ev => by
        have ho : orN v nc := by rw [ev]; exact plo i hi
        have l := xw f'
        cases hv : wlB nc w v with
        | false =>
          have q := no f' hf (fun h => by
            have := h.1 i hi
            rw [← ev, hv] at this
            exact absurd this (by decide))
          rw [e_X1_goes_68]
          simp only [↓e_X1_goes_7, ↓e_X1_goes_10, ↓e_X1_goes_13, ↓e_X1_goes_17, ↓e_X1_goes_20, ↓e_X1_goes_26, ↓e_X1_goes_33, ↓e_X1_goes_36, ↓e_X1_goes_39, ↓e_X1_goes_44, ↓e_X1_goes_46, ↓e_X1_goes_50, ↓e_X1_goes_53, ↓e_X1_goes_57, ↓e_X1_goes_59, ↓e_X1_goes_62, ↓e_X1_goes_66, ↓e_X1_goes_75, ↓e_X1_goes_78, ↓e_X1_goes_82, ↓e_X1_goes_84, ↓e_X1_goes_88, ↓e_X1_goes_90, ↓e_X1_goes_94, ↓e_X1_goes_96, ↓e_X1_goes_100, ↓e_X1_goes_103, ↓e_X1_goes_108, ↓e_X1_goes_114, v1 o1_58, l _ hf v ho, hv, zps_s, bI_0, true_or, true_and, zk_i, zk_r, zk_n, ↓reduceIte]
          exact q
        | true =>
          obtain ⟨c, hc, ec, -⟩ := wl_o hnc ho hv
          have h73 : f' 73 i = cm i := hD'.2.2.2.2.1 i hi
          have r74 := ri_k i74 (show c < 6 by omega) (by decide) E (f', t)
          have r73 := ri_k i73 (show i < 6 by omega) (by decide) E (f', t)
          by_cases q : f' 74 c &&& cm i = 0
          · have bits : ∀ j, j < i → ply j = nI c → bt (cm i) j = false := fun j hj e => by
              have b := (b_nz.mp q) j (by omega)
              rw [b_and, h74 c hc j (by omega), decide_eq_true hj, decide_eq_true e, Bool.true_and, Bool.true_and] at b
              exact b
            obtain ⟨f2, hf2⟩ : ∃ g : Nat → Nat → Int32, g = set2 f' 74 c (f' 74 c ||| (1 <<< (nI i &&& 31))) := ⟨_, rfl⟩
            have w74 := wi_k i74 (show c < 6 by omega) (by decide) (f', t) (f' 74 c ||| (1 <<< (nI i &&& 31)))
            dsimp only at w74
            rw [← hf2] at w74
            have nx := ihk (i + 1) f2 (some (.int v)) (by omega) (fun a ha => by rw [hf2, set2_a ha]; exact hf a ha) (fun c' hc' j hj => by
              by_cases e : c' = c
              · subst e
                rw [hf2, set2_s, b_or, h74 c' hc' j hj, b_one (by omega) hj]
                by_cases ej : j = i
                · subst ej
                  rw [← ev, ec]
                  simp
                · have : decide (j < i) = decide (j < i + 1) := decide_eq_decide.mpr (by omega)
                  rw [this, decide_eq_false ej, Bool.or_false]
              · rw [hf2, set2_n (Or.inr e), h74 c' hc' j hj]
                by_cases ej : j = i
                · subst ej
                  have : ¬ ply j = nI c' := by
                    rw [← ev, ec]
                    intro e2
                    have := (nI_eq (show c < 2 ^ 31 by omega) (show c' < 2 ^ 31 by omega)).mp e2
                    omega
                  rw [decide_eq_false this, Bool.and_false, Bool.and_false]
                · have : decide (j < i) = decide (j < i + 1) := decide_eq_decide.mpr (by omega)
                  rw [this]) (fun p hp => by
              by_cases e : p = i
              · subst e
                rw [← ev]
                exact hv
              · exact g1' p (by omega)) (fun a b h1 h2 h3 => by
              by_cases e : a = i
              · subst e
                rw [← ev, ec] at h3
                exact bits b h1 h3.symm
              · exact g2' a b h1 (by omega) h3)
            subst ec
            rw [e_X1_goes_68]
            simp only [↓e_X1_goes_7, ↓e_X1_goes_10, ↓e_X1_goes_13, ↓e_X1_goes_17, ↓e_X1_goes_20, ↓e_X1_goes_26, ↓e_X1_goes_33, ↓e_X1_goes_36, ↓e_X1_goes_39, ↓e_X1_goes_44, ↓e_X1_goes_46, ↓e_X1_goes_50, ↓e_X1_goes_53, ↓e_X1_goes_57, ↓e_X1_goes_59, ↓e_X1_goes_62, ↓e_X1_goes_66, ↓e_X1_goes_75, ↓e_X1_goes_78, ↓e_X1_goes_82, ↓e_X1_goes_84, ↓e_X1_goes_88, ↓e_X1_goes_90, ↓e_X1_goes_94, ↓e_X1_goes_96, ↓e_X1_goes_100, ↓e_X1_goes_103, ↓e_X1_goes_108, ↓e_X1_goes_114, v1 o1_58, g1 o1_58, Nat.reduceAdd, l _ hf _ ho, hv, r74, r73, h73, q, w74, nI_1, zps_s, bI_t, i01, zk_i, zk_r, zk_n, ↓reduceIte]
            exact nx
          · have q2 := no f' hf (fun h => by
              refine q (b_nz.mpr (fun j hj => ?_))
              rw [b_and, h74 c hc j hj]
              by_cases hj : j < i
              · by_cases e : ply j = nI c
                · rw [h.2 i j hj hi (by rw [← ev, e, ec]), Bool.and_false]
                · rw [decide_eq_false e, Bool.and_false, Bool.false_and]
              · rw [decide_eq_false hj, Bool.false_and, Bool.false_and])
            subst ec
            rw [e_X1_goes_68]
            simp only [↓e_X1_goes_7, ↓e_X1_goes_10, ↓e_X1_goes_13, ↓e_X1_goes_17, ↓e_X1_goes_20, ↓e_X1_goes_26, ↓e_X1_goes_33, ↓e_X1_goes_36, ↓e_X1_goes_39, ↓e_X1_goes_44, ↓e_X1_goes_46, ↓e_X1_goes_50, ↓e_X1_goes_53, ↓e_X1_goes_57, ↓e_X1_goes_59, ↓e_X1_goes_62, ↓e_X1_goes_66, ↓e_X1_goes_75, ↓e_X1_goes_78, ↓e_X1_goes_82, ↓e_X1_goes_84, ↓e_X1_goes_88, ↓e_X1_goes_90, ↓e_X1_goes_94, ↓e_X1_goes_96, ↓e_X1_goes_100, ↓e_X1_goes_103, ↓e_X1_goes_108, ↓e_X1_goes_114, v1 o1_58, g1 o1_58, Nat.reduceAdd, l _ hf _ ho, hv, r74, r73, h73, q, zps_s, bI_t, i01, true_or, true_and, zk_i, zk_r, zk_n, ↓reduceIte]
            exact q2
      have h71 : f' 71 i = ca i := hD'.2.2.1 i hi
      have h72 : f' 72 i = bh i := hD'.2.2.2.1 i hi
      have r71 := ri_k i71 (show i < 6 by omega) (by decide) E (f', t)
      have r72 := ri_k i72 (show i < 6 by omega) (by decide) E (f', t)
      have l := xw f'
      cases hv : wlB nc w (ca i) with
      | true =>
        have m := main (ca i) (by rw [hpl]; unfold plC; rw [if_pos hv])
        rw [e_X1_goes_28]
        simp only [↓e_X1_goes_7, ↓e_X1_goes_10, ↓e_X1_goes_13, ↓e_X1_goes_17, ↓e_X1_goes_20, ↓e_X1_goes_26, ↓e_X1_goes_33, ↓e_X1_goes_36, ↓e_X1_goes_39, ↓e_X1_goes_44, ↓e_X1_goes_46, ↓e_X1_goes_50, ↓e_X1_goes_53, ↓e_X1_goes_57, ↓e_X1_goes_59, ↓e_X1_goes_62, ↓e_X1_goes_66, ↓e_X1_goes_75, ↓e_X1_goes_78, ↓e_X1_goes_82, ↓e_X1_goes_84, ↓e_X1_goes_88, ↓e_X1_goes_90, ↓e_X1_goes_94, ↓e_X1_goes_96, ↓e_X1_goes_100, ↓e_X1_goes_103, ↓e_X1_goes_108, ↓e_X1_goes_114, g1 o1_58, g6 o6_59, v1 o1_58, Nat.reduceAdd, hD'.2.1, nI_lt_iff (show i < 2 ^ 31 by omega) n2, hi, r71, h71, l _ hf _ (hca i hi), hv, zps_s, bI_t, i01, zk_i, zk_r, zk_n, ↓reduceIte]
        exact m
      | false =>
        have m := main (bh i) (by rw [hpl]; unfold plC; rw [if_neg (by rw [hv]; decide)])
        rw [e_X1_goes_28]
        simp only [↓e_X1_goes_7, ↓e_X1_goes_10, ↓e_X1_goes_13, ↓e_X1_goes_17, ↓e_X1_goes_20, ↓e_X1_goes_26, ↓e_X1_goes_33, ↓e_X1_goes_36, ↓e_X1_goes_39, ↓e_X1_goes_44, ↓e_X1_goes_46, ↓e_X1_goes_50, ↓e_X1_goes_53, ↓e_X1_goes_57, ↓e_X1_goes_59, ↓e_X1_goes_62, ↓e_X1_goes_66, ↓e_X1_goes_75, ↓e_X1_goes_78, ↓e_X1_goes_82, ↓e_X1_goes_84, ↓e_X1_goes_88, ↓e_X1_goes_90, ↓e_X1_goes_94, ↓e_X1_goes_96, ↓e_X1_goes_100, ↓e_X1_goes_103, ↓e_X1_goes_108, ↓e_X1_goes_114, g1 o1_58, g6 o6_59, v1 o1_58, Nat.reduceAdd, hD'.2.1, nI_lt_iff (show i < 2 ^ 31 by omega) n2, hi, r71, h71, r72, h72, l _ hf _ (hca i hi), hv, zps_s, bI_f, zk_i, zk_r, zk_n, ↓reduceIte]
        exact m
  have loop1 : ∀ k i (f' : Nat → Nat → Int32) (y : Option Value), i + k = nc → (∀ a, a ≠ 74 → f' a = f a) → (∀ c, c < i → f' 74 c = 0) → Ev E (d + 2) zm_X1_goes 2 [some (.ref 58), some (.int (nI x)), some (.int (nI i)), y] [] (HP (f', t)) Q := by
    intro k
    induction k with
    | zero =>
      intro i f' y hik hf h0
      have e : i = nc := by omega
      subst e
      have hD' := CD_c hf hD
      have nx := loop2 np 0 f' y (by omega) hf (fun c hc j hj => by
        rw [h0 c hc, (b_nz.mp rfl) j hj]
        rfl) (fun p hp => by omega) (fun a b h1 h2 => by omega)
      rw [nI_0] at nx
      rw [e_X1_goes_2]
      simp only [↓e_X1_goes_7, ↓e_X1_goes_10, ↓e_X1_goes_13, ↓e_X1_goes_17, ↓e_X1_goes_20, ↓e_X1_goes_26, ↓e_X1_goes_33, ↓e_X1_goes_36, ↓e_X1_goes_39, ↓e_X1_goes_44, ↓e_X1_goes_46, ↓e_X1_goes_50, ↓e_X1_goes_53, ↓e_X1_goes_57, ↓e_X1_goes_59, ↓e_X1_goes_62, ↓e_X1_goes_66, ↓e_X1_goes_68, ↓e_X1_goes_75, ↓e_X1_goes_78, ↓e_X1_goes_82, ↓e_X1_goes_84, ↓e_X1_goes_88, ↓e_X1_goes_90, ↓e_X1_goes_94, ↓e_X1_goes_96, ↓e_X1_goes_100, ↓e_X1_goes_103, ↓e_X1_goes_108, ↓e_X1_goes_114, g1 o1_58, g6 o6_59, Nat.reduceAdd, hD'.1, nI_lt_iff n1 n1, Nat.lt_irrefl, zk_i, zk_r, zk_n, ↓reduceIte]
      exact nx
    | succ k ihk =>
      intro i f' y hik hf h0
      have hD' := CD_c hf hD
      obtain ⟨f2, hf2⟩ : ∃ g : Nat → Nat → Int32, g = set2 f' 74 i 0 := ⟨_, rfl⟩
      have w74 := wi_k i74 (show i < 6 by omega) (by decide) (f', t) 0
      dsimp only at w74
      rw [← hf2] at w74
      have nx := ihk (i + 1) f2 y (by omega) (fun a ha => by rw [hf2, set2_a ha]; exact hf a ha) (fun c hc => by
        by_cases e : c = i
        · subst e
          rw [hf2, set2_s]
        · rw [hf2, set2_n (Or.inr e)]
          exact h0 c (by omega))
      rw [e_X1_goes_2]
      simp only [↓e_X1_goes_7, ↓e_X1_goes_10, ↓e_X1_goes_13, ↓e_X1_goes_17, ↓e_X1_goes_20, ↓e_X1_goes_26, ↓e_X1_goes_33, ↓e_X1_goes_36, ↓e_X1_goes_39, ↓e_X1_goes_44, ↓e_X1_goes_46, ↓e_X1_goes_50, ↓e_X1_goes_53, ↓e_X1_goes_57, ↓e_X1_goes_59, ↓e_X1_goes_62, ↓e_X1_goes_66, ↓e_X1_goes_68, ↓e_X1_goes_75, ↓e_X1_goes_78, ↓e_X1_goes_82, ↓e_X1_goes_84, ↓e_X1_goes_88, ↓e_X1_goes_90, ↓e_X1_goes_94, ↓e_X1_goes_96, ↓e_X1_goes_100, ↓e_X1_goes_103, ↓e_X1_goes_108, ↓e_X1_goes_114, g1 o1_58, g6 o6_59, Nat.reduceAdd, hD'.1, nI_lt_iff (show i < 2 ^ 31 by omega) n1, show i < nc by omega, w74, nI_1, zk_i, zk_r, zk_n, ↓reduceIte]
      exact nx
  have start := loop1 nc 0 f none (by omega) (fun _ _ => rfl) (fun c hc => by omega)
  rw [nI_0] at start
  simp only [↓c_X1_goes, ↓e_X1_goes_0, ↓e_X1_goes_7, ↓e_X1_goes_10, ↓e_X1_goes_13, ↓e_X1_goes_17, ↓e_X1_goes_20, ↓e_X1_goes_26, ↓e_X1_goes_33, ↓e_X1_goes_36, ↓e_X1_goes_39, ↓e_X1_goes_44, ↓e_X1_goes_46, ↓e_X1_goes_50, ↓e_X1_goes_53, ↓e_X1_goes_57, ↓e_X1_goes_59, ↓e_X1_goes_62, ↓e_X1_goes_66, ↓e_X1_goes_68, ↓e_X1_goes_75, ↓e_X1_goes_78, ↓e_X1_goes_82, ↓e_X1_goes_84, ↓e_X1_goes_88, ↓e_X1_goes_90, ↓e_X1_goes_94, ↓e_X1_goes_96, ↓e_X1_goes_100, ↓e_X1_goes_103, ↓e_X1_goes_108, ↓e_X1_goes_114, zk_i, zk_r, zk_n]
  exact start
