/-! NEXT: numbers; the class -/
def btB (H : Nat → Nat → Int32) (y : Nat) (s : Option (Nat × Nat) × Nat) (p c : Nat) : Bool := decide (s.2 < y) || (match s.1 with
  | none => false
  | some a => decide (y = s.2) && decide (H p c < H a.1 a.2))
def nxS (W : Nat → Nat → Nat) (H : Nat → Nat → Int32) (ok : Nat → Nat → Bool) (p c : Nat) (s : Option (Nat × Nat) × Nat) : Option (Nat × Nat) × Nat := if (ok p c && btB H (W p c) s p c) = true then (some (p, c), W p c) else s
def nxR (W : Nat → Nat → Nat) (H : Nat → Nat → Int32) (ok : Nat → Nat → Bool) (nc p : Nat) (s : Option (Nat × Nat) × Nat) : Option (Nat × Nat) × Nat := itr (fun c s => nxS W H ok p c s) nc s
def nxA (W : Nat → Nat → Nat) (H : Nat → Nat → Int32) (ok : Nat → Nat → Bool) (nc np : Nat) (s : Option (Nat × Nat) × Nat) : Option (Nat × Nat) × Nat := itr (fun p s => nxR W H ok nc p s) np s
def anN (s : Option (Nat × Nat) × Nat) : Int32 := match s.1 with
  | none => -1
  | some a => nI (10 * a.1 + a.2)
def hrN (H : Nat → Nat → Int32) (s : Option (Nat × Nat) × Nat) : Int32 := match s.1 with
  | none => 0
  | some a => H a.1 a.2
def vdN (nc np : Nat) (s : Option (Nat × Nat) × Nat) : Prop := s.2 < 2 ^ 40 ∧ ∀ a, s.1 = some a → a.1 < np ∧ a.2 < nc
section NX
variable {W : Nat → Nat → Nat} {H : Nat → Nat → Int32} {ok : Nat → Nat → Bool} {nc np : Nat}
theorem vd_S (hW : ∀ p c, W p c < 2 ^ 40) {p c : Nat} (hp : p < np) (hc : c < nc) {s : Option (Nat × Nat) × Nat} (h : vdN nc np s) : vdN nc np (nxS W H ok p c s) := by
  unfold nxS
  split
  · refine ⟨hW p c, fun a ha => ?_⟩
    cases ha
    exact ⟨hp, hc⟩
  · exact h
theorem vd_T (hW : ∀ p c, W p c < 2 ^ 40) {p : Nat} (hp : p < np) {s : Option (Nat × Nat) × Nat} (h : vdN nc np s) : ∀ k, k ≤ nc → vdN nc np (itr (fun c s => nxS W H ok p c s) k s)
  | 0, _ => h
  | k + 1, hk => by
    rw [itr_s]
    exact vd_S hW hp (by omega) (vd_T hW hp h k (by omega))
theorem vd_A (hW : ∀ p c, W p c < 2 ^ 40) {s : Option (Nat × Nat) × Nat} (h : vdN nc np s) : ∀ k, k ≤ np → vdN nc np (nxA W H ok nc k s)
  | 0, _ => h
  | k + 1, hk => by
    unfold nxA
    rw [itr_s]
    exact vd_T hW (by omega) (vd_A hW h k (by omega)) nc (Nat.le_refl nc)
theorem nx_id {p : Nat} (h : ∀ c, ok p c = false) (s : Option (Nat × Nat) × Nat) : ∀ k, itr (fun c s => nxS W H ok p c s) k s = s
  | 0 => rfl
  | k + 1 => by
    rw [itr_s, nx_id h s k]
    unfold nxS
    rw [h k, Bool.false_and, if_neg (by decide)]
theorem nxA_s (s : Option (Nat × Nat) × Nat) (p : Nat) : nxA W H ok nc (p + 1) s = nxR W H ok nc p (nxA W H ok nc p s) := rfl
theorem nxR_s (s : Option (Nat × Nat) × Nat) (p c : Nat) : itr (fun c s => nxS W H ok p c s) (c + 1) s = nxS W H ok p c (itr (fun c s => nxS W H ok p c s) c s) := rfl
end NX
theorem lN_cg {a b : Nat} (ha : a < 2 ^ 63) (hb : b < 2 ^ 63) : ((0 : Int32) < lg_cmp (lN a) (lN b)) = (b < a) := by
  rw [← lN_ltI hb ha]
  exact propext (lg_cmp_gt _ _)
theorem lN_ce {a b : Nat} (ha : a < 2 ^ 63) (hb : b < 2 ^ 63) : (lg_cmp (lN a) (lN b) = 0) = (a = b) := by
  rw [propext (lg_cmp_eq (lN a) (lN b)), ← Int64.toInt_inj, lNi ha, lNi hb]
  exact propext Int.ofNat_inj
theorem i61 : isI 61 6 := rfl
theorem i63 : isI 63 6 := rfl
theorem CD_b {f : Nat → Nat → Int32} {nc np : Nat} {ca bh cm il : Nat → Int32} (hD : CD f nc np ca bh cm il) (p : Nat) (v : Int32) : CD (set2 f 72 p v) nc np ca (upd bh p v) cm il := by
  unfold CD
  rw [set2_a (show 59 ≠ 72 by decide), set2_a (show 71 ≠ 72 by decide), set2_a (show 73 ≠ 72 by decide), set2_a (show 67 ≠ 72 by decide)]
  refine ⟨hD.1, hD.2.1, hD.2.2.1, fun q hq => ?_, hD.2.2.2.2.1, hD.2.2.2.2.2⟩
  unfold upd
  by_cases e : q = p
  · subst e
    rw [set2_s, if_pos rfl]
  · rw [set2_n (Or.inr e), if_neg e]
    exact hD.2.2.2.1 q hq
theorem up_or {bh : Nat → Int32} {nc np p c : Nat} (hbh : ∀ q, q < np → orN (bh q) nc) (hc : c < nc) : ∀ q, q < np → orN (upd bh p (nI c) q) nc := fun q hq => by
  unfold upd
  split
  · exact Or.inr ⟨c, hc, rfl⟩
  · exact hbh q hq
theorem x_with (E : zE) (d : Nat) {nc np : Nat} (hnc : nc ≤ 6) (hnp : np ≤ 6) {ca bh cm : Nat → Int32} {IL : Nat → Nat} (hIL : ∀ c, c < nc → IL c ≤ 19) (hca : ∀ p, p < np → orN (ca p) nc) (hbh : ∀ p, p < np → orN (bh p) nc) {f : Nat → Nat → Int32} {t : (Nat → Nat → Int64) × Nat} (hD : CD f nc np ca bh cm (fun c => nI (IL c))) (hw : ∀ x, x < 64 → t.1 75 x = lN (wyX nc IL x)) {p c : Nat} (hp : p < np) (hc : c < nc) : Hr E (d + 4) 16 [.ref 58, .int (nI p), .int (nI c)] (f, t) (fun v z' => v = some (.long (lN (odC nc np cm ca (upd bh p (nI c)) IL 64))) ∧ z'.2 = t ∧ ∀ a, a ≠ 74 → z'.1 a = f a) := by
  have e1 : inB (nI p) (f 59 0) = true := by rw [hD.2.1, inB_nI (by omega) (by omega), decide_eq_true hp]
  have w1 := wi_k i72 (show p < 6 by omega) (by decide) (f, t) (nI c)
  obtain ⟨f1, hf1⟩ : ∃ g : Nat → Nat → Int32, g = set2 f 72 p (nI c) := ⟨_, rfl⟩
  dsimp only at w1
  rw [← hf1] at w1
  have hD1 := CD_b hD p (nI c)
  rw [← hf1] at hD1
  obtain ⟨v, z2, ⟨e2, e3, e4⟩, k⟩ := Hr_use (x_ways E d hnc hnp hIL hca (up_or hbh hc) (t := t) hD1 hw)
  subst e2
  obtain ⟨f2, t2⟩ := z2
  dsimp only at e3 e4
  subst e3
  have r1 := ri_k i72 (show p < 6 by omega) (by decide) E (f, t2)
  have w2 := wi_k i72 (show p < 6 by omega) (by decide) (f2, t2) (f 72 p)
  refine Hr_of (z' := (set2 f2 72 p (f 72 p), t2)) (fun K => ?_) ⟨rfl, rfl, fun a ha => ?_⟩
  · simp only [↓c_X1_waysWith, ↓e_X1_waysWith_0, ↓e_X1_waysWith_4, ↓e_X1_waysWith_8, ↓e_X1_waysWith_11, ↓e_X1_waysWith_13, ↓e_X1_waysWith_17, ↓e_X1_waysWith_19, ↓e_X1_waysWith_24, ↓e_X1_waysWith_27, ↓e_X1_waysWith_31, ↓e_X1_waysWith_37, ↓e_X1_waysWith_40, g1 o1_58, v1 o1_58, v6 o6_59, Nat.reduceAdd, s_hasPart o6_59, e1, r1, w1, k, w2, zps_s, bI_t, i01, zk_i, zk_r, zk_l, zk_n, ↓reduceIte]
  · by_cases e : a = 72
    · subst e
      funext j
      show set2 f2 72 p (f 72 p) 72 j = f 72 j
      by_cases ej : j = p
      · subst ej
        rw [set2_s]
      · rw [set2_n (Or.inr ej), e4 72 (by decide), hf1, set2_n (Or.inr ej)]
    · show set2 f2 72 p (f 72 p) a = f a
      rw [set2_a e, e4 a ha, hf1, set2_a e]
theorem x_hours (E : zE) (d : Nat) {nc np : Nat} (hnc : nc ≤ 6) (hnp : np ≤ 6) {z : zS} (h0 : z.1 59 0 = nI np) (h4 : z.1 59 4 = nI nc) {p c : Nat} (hp : p < np) (hc : c < nc) {l : Int32} (hl : rg l 1 9) (h63 : z.1 63 c = l) {m : Int32} (h61 : z.1 61 p = m) (K : Option Value → zH → Prop) : Cl E (d + 1) 17 [.ref 58, .int (nI p), .int (nI c)] (HP z) K = K (some (.int ((m + l - 1) / l))) (HP z) := by
  have e1 : inB (nI p) (nI np) = true := by rw [inB_nI (by omega) (by omega), decide_eq_true hp]
  have e2 : inB (nI c) (nI nc) = true := by rw [inB_nI (by omega) (by omega), decide_eq_true hc]
  have r1 := ri_k i63 (show c < 6 by omega) (by decide) E z
  have r2 := ri_k i61 (show p < 6 by omega) (by decide) E z
  obtain ⟨n, n1, n2, rfl⟩ := hl
  have em : (if (1 : Int32) < nI n then nI n else 1) = nI n := (by decide +kernel : ∀ n, n < 10 → 1 ≤ n → (if (1 : Int32) < nI n then nI n else 1) = nI n) n (by omega) n1
  have en : (nI n = 0) = False := eq_false ((by decide +kernel : ∀ n, n < 10 → 1 ≤ n → ¬ nI n = 0) n (by omega) n1)
  simp only [↓c_X1_hoursOf, ↓e_X1_hoursOf_0, ↓e_X1_hoursOf_4, ↓e_X1_hoursOf_8, ↓e_X1_hoursOf_11, ↓e_X1_hoursOf_15, ↓e_X1_hoursOf_19, ↓e_X1_hoursOf_22, ↓e_X1_hoursOf_24, ↓e_X1_hoursOf_29, ↓e_X1_hoursOf_32, ↓e_X1_hoursOf_34, ↓e_X1_hoursOf_42, ↓e_X1_hoursOf_45, ↓e_X1_hoursOf_47, ↓e_X1_hoursOf_53, g1 o1_58, g6 o6_59, v6 o6_59, Nat.reduceAdd, s_hasPart o6_59, s_hasChild o6_59, h0, h4, e1, e2, r1, h63, r2, h61, em, en, not_false_eq_true, true_and, zps_s, bI_t, i01, zk_i, zk_r, zk_l, zk_n, ↓reduceIte]
theorem n10 (p c : Nat) : (10 : Int32) * nI p + nI c = nI (10 * p + c) := by rw [show (10 : Int32) = nI 10 from by decide, nI_mul, nI_add]
set_option maxRecDepth 100000 in
theorem x_next (E : zE) (d : Nat) {nc np : Nat} (hnc : nc ≤ 6) (hnp : np ≤ 6) {ca bh cm : Nat → Int32} {IL : Nat → Nat} (hIL : ∀ c, c < nc → IL c ≤ 19) (hca : ∀ p, p < np → orN (ca p) nc) (hbh : ∀ p, p < np → orN (bh p) nc) {lr li : Nat → Int32} (hlr : ∀ c, c < nc → rg (lr c) 1 9) {f : Nat → Nat → Int32} {t : (Nat → Nat → Int64) × Nat} (hD : CD f nc np ca bh cm (fun c => nI (IL c))) (hw : ∀ x, x < 64 → t.1 75 x = lN (wyX nc IL x)) (h61 : ∀ p, p < np → f 61 p = li p) (h63 : ∀ c, c < nc → f 63 c = lr c) {W : Nat → Nat → Nat} (hW : W = fun p c => odC nc np cm ca (upd bh p (nI c)) IL 64) {H : Nat → Nat → Int32} (hH : H = fun p c => (li p + lr c - 1) / lr c) {ok : Nat → Nat → Bool} (hok : ok = fun p c => decide (bh p = -1) && !decide (nI c = ca p)) : Hr E (d + 5) 15 [.ref 58] (f, t) (fun v z' => v = some (.int (anN (nxA W H ok nc np (none, odC nc np cm ca bh IL 64)))) ∧ z'.2 = t ∧ ∀ a, a ≠ 74 → z'.1 a = f a) := by
  have n1 : nc < 2 ^ 31 := by omega
  have n2 : np < 2 ^ 31 := by omega
  have hW40 : ∀ p c, W p c < 2 ^ 40 := fun p c => by
    rw [hW]
    have := od_le hnc np cm ca (upd bh p (nI c)) hIL 64
    show odC nc np cm ca (upd bh p (nI c)) IL 64 < 2 ^ 40
    omega
  have vd0 : vdN nc np (none, odC nc np cm ca bh IL 64) := ⟨by
    have := od_le hnc np cm ca bh hIL 64
    show odC nc np cm ca bh IL 64 < 2 ^ 40
    omega, fun a ha => by cases ha⟩
  obtain ⟨s0, hs0⟩ : ∃ s : Option (Nat × Nat) × Nat, s = (none, odC nc np cm ca bh IL 64) := ⟨_, rfl⟩
  rw [← hs0] at vd0
  rw [← hs0]
  unfold Hr
  generalize hQ : (fun (v : Option Value) (h : zH) => ∃ z' : zS, h = HP z' ∧ (v = some (.int (anN (nxA W H ok nc np s0))) ∧ z'.2 = t ∧ ∀ a, a ≠ 74 → z'.1 a = f a)) = Q
  have loop : ∀ k p (f' : Nat → Nat → Int32) (y6 y7 y8 y9 : Option Value), p + k = np → (∀ a, a ≠ 74 → f' a = f a) → Ev E (d + 5) zm_X1_nextBehind 12 [some (.ref 58), some (.int (anN (nxA W H ok nc p s0))), some (.int (hrN H (nxA W H ok nc p s0))), some (.long (lN (nxA W H ok nc p s0).2)), none, some (.int (nI p)), y6, y7, y8, y9] [] (HP (f', t)) Q := by
    intro k
    induction k with
    | zero =>
      intro p f' y6 y7 y8 y9 hpk hf
      have e : p = np := by omega
      subst e
      have hD' := CD_c hf hD
      have q : Q (some (.int (anN (nxA W H ok nc p s0)))) (HP (f', t)) := by
        rw [← hQ]
        exact ⟨(f', t), rfl, rfl, rfl, hf⟩
      rw [e_X1_nextBehind_12]
      simp only [↓e_X1_nextBehind_8, ↓e_X1_nextBehind_18, ↓e_X1_nextBehind_21, ↓e_X1_nextBehind_24, ↓e_X1_nextBehind_33, ↓e_X1_nextBehind_36, ↓e_X1_nextBehind_39, ↓e_X1_nextBehind_43, ↓e_X1_nextBehind_46, ↓e_X1_nextBehind_50, ↓e_X1_nextBehind_56, ↓e_X1_nextBehind_59, ↓e_X1_nextBehind_62, ↓e_X1_nextBehind_65, ↓e_X1_nextBehind_73, ↓e_X1_nextBehind_83, ↓e_X1_nextBehind_92, ↓e_X1_nextBehind_97, ↓e_X1_nextBehind_104, ↓e_X1_nextBehind_110, ↓e_X1_nextBehind_125, ↓e_X1_nextBehind_131, ↓e_X1_nextBehind_137, g1 o1_58, g6 o6_59, Nat.reduceAdd, hD'.2.1, nI_lt_iff n2 n2, Nat.lt_irrefl, zk_i, zk_r, zk_l, zk_n, ↓reduceIte]
      exact q
    | succ k ihk =>
      intro p f' y6 y7 y8 y9 hpk hf
      have hp : p < np := by omega
      have hD' := CD_c hf hD
      have vdp := vd_A (H := H) (ok := ok) hW40 vd0 p (by omega)
      have r72 := ri_k i72 (show p < 6 by omega) (by decide) E
      have r71 := ri_k i71 (show p < 6 by omega) (by decide) E
      by_cases hb : bh p = -1
      · have inner : ∀ k c (f' : Nat → Nat → Int32) (y7 y8 y9 : Option Value), c + k = nc → (∀ a, a ≠ 74 → f' a = f a) → Ev E (d + 5) zm_X1_nextBehind 27 [some (.ref 58), some (.int (anN (itr (fun c s => nxS W H ok p c s) c (nxA W H ok nc p s0)))), some (.int (hrN H (itr (fun c s => nxS W H ok p c s) c (nxA W H ok nc p s0)))), some (.long (lN (itr (fun c s => nxS W H ok p c s) c (nxA W H ok nc p s0)).2)), none, some (.int (nI p)), some (.int (nI c)), y7, y8, y9] [] (HP (f', t)) Q := by
          intro k
          induction k with
          | zero =>
            intro c f' y7 y8 y9 hck hf
            have e : c = nc := by omega
            subst e
            have hD' := CD_c hf hD
            have nx := ihk (p + 1) f' (some (.int (nI c))) y7 y8 y9 (by omega) hf
            rw [nxA_s] at nx
            unfold nxR at nx
            rw [e_X1_nextBehind_27]
            simp only [↓e_X1_nextBehind_8, ↓e_X1_nextBehind_18, ↓e_X1_nextBehind_21, ↓e_X1_nextBehind_24, ↓e_X1_nextBehind_33, ↓e_X1_nextBehind_36, ↓e_X1_nextBehind_39, ↓e_X1_nextBehind_43, ↓e_X1_nextBehind_46, ↓e_X1_nextBehind_50, ↓e_X1_nextBehind_56, ↓e_X1_nextBehind_59, ↓e_X1_nextBehind_62, ↓e_X1_nextBehind_65, ↓e_X1_nextBehind_73, ↓e_X1_nextBehind_83, ↓e_X1_nextBehind_92, ↓e_X1_nextBehind_97, ↓e_X1_nextBehind_104, ↓e_X1_nextBehind_110, ↓e_X1_nextBehind_125, ↓e_X1_nextBehind_131, ↓e_X1_nextBehind_137, g1 o1_58, g6 o6_59, Nat.reduceAdd, hD'.1, nI_lt_iff n1 n1, Nat.lt_irrefl, nI_1, zk_i, zk_r, zk_l, zk_n, ↓reduceIte]
            exact nx
          | succ k ihk2 =>
            intro c f' y7 y8 y9 hck hf
            have hc : c < nc := by omega
            have hD' := CD_c hf hD
            have vd := vd_T (H := H) (ok := ok) hW40 hp vdp c (by omega)
            have b72 : f' 72 p = -1 := (hD'.2.2.2.1 p hp).trans hb
            have b71 : f' 71 p = ca p := hD'.2.2.1 p hp
            have r72 := r72 (f', t)
            have r71 := r71 (f', t)
            by_cases hq : nI c = ca p
            · have nx := ihk2 (c + 1) f' y7 y8 y9 (by omega) hf
              have e : nxS W H ok p c (itr (fun c s => nxS W H ok p c s) c (nxA W H ok nc p s0)) = itr (fun c s => nxS W H ok p c s) c (nxA W H ok nc p s0) := by
                have : ok p c = false := by rw [hok]; show (decide (bh p = -1) && !decide (nI c = ca p)) = false; rw [decide_eq_true hq]; simp
                show (if (ok p c && _) = true then _ else _) = _
                rw [this, Bool.false_and, if_neg (by decide)]
              rw [nxR_s, e] at nx
              have hq' : (nI c = ca p) = True := eq_true hq
              rw [e_X1_nextBehind_27]
              simp only [↓e_X1_nextBehind_8, ↓e_X1_nextBehind_18, ↓e_X1_nextBehind_21, ↓e_X1_nextBehind_24, ↓e_X1_nextBehind_33, ↓e_X1_nextBehind_36, ↓e_X1_nextBehind_39, ↓e_X1_nextBehind_43, ↓e_X1_nextBehind_46, ↓e_X1_nextBehind_50, ↓e_X1_nextBehind_56, ↓e_X1_nextBehind_59, ↓e_X1_nextBehind_62, ↓e_X1_nextBehind_65, ↓e_X1_nextBehind_73, ↓e_X1_nextBehind_83, ↓e_X1_nextBehind_92, ↓e_X1_nextBehind_97, ↓e_X1_nextBehind_104, ↓e_X1_nextBehind_110, ↓e_X1_nextBehind_125, ↓e_X1_nextBehind_131, ↓e_X1_nextBehind_137, g1 o1_58, g6 o6_59, Nat.reduceAdd, hD'.1, nI_lt_iff (show c < 2 ^ 31 by omega) n1, hc, r72, b72, r71, b71, hq', nI_1, zk_i, zk_r, zk_l, zk_n, ↓reduceIte]
              exact nx
            · obtain ⟨v, z2, ⟨e2, e3, e4⟩, kw⟩ := Hr_use (x_with E d hnc hnp hIL hca hbh (t := t) hD' hw hp hc)
              subst e2
              obtain ⟨f2, t2⟩ := z2
              dsimp only at e3 e4
              subst e3
              have hf2 : ∀ a, a ≠ 74 → f2 a = f a := fun a ha => by rw [e4 a ha, hf a ha]
              have hD2 := CD_c hf2 hD
              have kh := x_hours E (d + 3) hnc hnp (z := (f2, t2)) hD2.2.1 hD2.1 hp hc (hlr c hc) (by show f2 63 c = lr c; rw [hf2 63 (by decide)]; exact h63 c hc) (m := li p) (by show f2 61 p = li p; rw [hf2 61 (by decide)]; exact h61 p hp)
              rw [show (li p + lr c - 1) / lr c = H p c by rw [hH]] at kh
              rw [show odC nc np cm ca (upd bh p (nI c)) IL 64 = W p c by rw [hW]] at kw
              have okt : ok p c = true := by rw [hok]; show (decide (bh p = -1) && !decide (nI c = ca p)) = true; rw [decide_eq_true hb, decide_eq_false hq]; rfl
              have nx := fun y7 y8 y9 => ihk2 (c + 1) f2 y7 y8 y9 (by omega) hf2
              rw [nxR_s] at nx
              generalize itr (fun c s => nxS W H ok p c s) c (nxA W H ok nc p s0) = s at nx vd ⊢
              have w40 := hW40 p c
              have cg := lN_cg (a := W p c) (b := s.2) (by omega) (by have := vd.1; omega)
              have ce := lN_ce (a := W p c) (b := s.2) (by omega) (by have := vd.1; omega)
              unfold nxS at nx
              rw [okt, Bool.true_and] at nx
              obtain ⟨sa, sm⟩ := s
              unfold btB at nx
              dsimp only at nx cg ce vd ⊢
              by_cases g : sm < W p c
              · rw [if_pos (by rw [decide_eq_true g, Bool.true_or])] at nx
                have nx := nx (some (.long (lN (W p c)))) none (some (.int (H p c)))
                rw [e_X1_nextBehind_27]
                simp only [↓e_X1_nextBehind_8, ↓e_X1_nextBehind_18, ↓e_X1_nextBehind_21, ↓e_X1_nextBehind_24, ↓e_X1_nextBehind_33, ↓e_X1_nextBehind_36, ↓e_X1_nextBehind_39, ↓e_X1_nextBehind_43, ↓e_X1_nextBehind_46, ↓e_X1_nextBehind_50, ↓e_X1_nextBehind_56, ↓e_X1_nextBehind_59, ↓e_X1_nextBehind_62, ↓e_X1_nextBehind_65, ↓e_X1_nextBehind_73, ↓e_X1_nextBehind_83, ↓e_X1_nextBehind_92, ↓e_X1_nextBehind_97, ↓e_X1_nextBehind_104, ↓e_X1_nextBehind_110, ↓e_X1_nextBehind_125, ↓e_X1_nextBehind_131, ↓e_X1_nextBehind_137, g1 o1_58, g6 o6_59, v1 o1_58, Nat.reduceAdd, hD'.1, nI_lt_iff (show c < 2 ^ 31 by omega) n1, hc, r72, b72, r71, b71, hq, kw, kh, cg, g, n10, zps_s, nI_1, zk_i, zk_r, zk_l, zk_n, ↓reduceIte]
                exact nx
              · rw [decide_eq_false g, Bool.false_or] at nx
                cases sa with
                | none =>
                  dsimp only at nx
                  rw [if_neg (by decide)] at nx
                  have nx := nx (some (.long (lN (W p c)))) none (some (.int (H p c)))
                  have ea : anN (none, sm) = -1 := rfl
                  rw [ea] at nx ⊢
                  rw [e_X1_nextBehind_27]
                  simp only [↓e_X1_nextBehind_8, ↓e_X1_nextBehind_18, ↓e_X1_nextBehind_21, ↓e_X1_nextBehind_24, ↓e_X1_nextBehind_33, ↓e_X1_nextBehind_36, ↓e_X1_nextBehind_39, ↓e_X1_nextBehind_43, ↓e_X1_nextBehind_46, ↓e_X1_nextBehind_50, ↓e_X1_nextBehind_56, ↓e_X1_nextBehind_59, ↓e_X1_nextBehind_62, ↓e_X1_nextBehind_65, ↓e_X1_nextBehind_73, ↓e_X1_nextBehind_83, ↓e_X1_nextBehind_92, ↓e_X1_nextBehind_97, ↓e_X1_nextBehind_104, ↓e_X1_nextBehind_110, ↓e_X1_nextBehind_125, ↓e_X1_nextBehind_131, ↓e_X1_nextBehind_137, g1 o1_58, g6 o6_59, v1 o1_58, Nat.reduceAdd, hD'.1, nI_lt_iff (show c < 2 ^ 31 by omega) n1, hc, r72, b72, r71, b71, hq, kw, kh, cg, g, n10, zps_s, nI_1, zk_i, zk_r, zk_l, zk_n, ↓reduceIte]
                  exact nx
                | some a =>
                  have va := vd.2 a rfl
                  have ea : anN (some a, sm) = nI (10 * a.1 + a.2) := rfl
                  have eh : hrN H (some a, sm) = H a.1 a.2 := rfl
                  have em := nI_nm (c := 10 * a.1 + a.2) (by omega)
                  dsimp only at nx
                  rw [ea, eh]
                  by_cases g2 : W p c = sm
                  · have g2' : (W p c = sm) = True := eq_true g2
                    by_cases g3 : H p c < H a.1 a.2
                    · rw [if_pos (by rw [decide_eq_true g2, decide_eq_true g3]; rfl)] at nx
                      have nx := nx (some (.long (lN (W p c)))) none (some (.int (H p c)))
                      rw [e_X1_nextBehind_27]
                      simp only [↓e_X1_nextBehind_8, ↓e_X1_nextBehind_18, ↓e_X1_nextBehind_21, ↓e_X1_nextBehind_24, ↓e_X1_nextBehind_33, ↓e_X1_nextBehind_36, ↓e_X1_nextBehind_39, ↓e_X1_nextBehind_43, ↓e_X1_nextBehind_46, ↓e_X1_nextBehind_50, ↓e_X1_nextBehind_56, ↓e_X1_nextBehind_59, ↓e_X1_nextBehind_62, ↓e_X1_nextBehind_65, ↓e_X1_nextBehind_73, ↓e_X1_nextBehind_83, ↓e_X1_nextBehind_92, ↓e_X1_nextBehind_97, ↓e_X1_nextBehind_104, ↓e_X1_nextBehind_110, ↓e_X1_nextBehind_125, ↓e_X1_nextBehind_131, ↓e_X1_nextBehind_137, g1 o1_58, g6 o6_59, v1 o1_58, Nat.reduceAdd, hD'.1, nI_lt_iff (show c < 2 ^ 31 by omega) n1, hc, r72, b72, r71, b71, hq, kw, kh, cg, ce, g, g2', g3, em, n10, zps_s, nI_1, zk_i, zk_r, zk_l, zk_n, ↓reduceIte]
                      exact nx
                    · rw [if_neg (by rw [decide_eq_false g3, Bool.and_false]; decide), ea, eh] at nx
                      have nx := nx (some (.long (lN (W p c)))) none (some (.int (H p c)))
                      rw [e_X1_nextBehind_27]
                      simp only [↓e_X1_nextBehind_8, ↓e_X1_nextBehind_18, ↓e_X1_nextBehind_21, ↓e_X1_nextBehind_24, ↓e_X1_nextBehind_33, ↓e_X1_nextBehind_36, ↓e_X1_nextBehind_39, ↓e_X1_nextBehind_43, ↓e_X1_nextBehind_46, ↓e_X1_nextBehind_50, ↓e_X1_nextBehind_56, ↓e_X1_nextBehind_59, ↓e_X1_nextBehind_62, ↓e_X1_nextBehind_65, ↓e_X1_nextBehind_73, ↓e_X1_nextBehind_83, ↓e_X1_nextBehind_92, ↓e_X1_nextBehind_97, ↓e_X1_nextBehind_104, ↓e_X1_nextBehind_110, ↓e_X1_nextBehind_125, ↓e_X1_nextBehind_131, ↓e_X1_nextBehind_137, g1 o1_58, g6 o6_59, v1 o1_58, Nat.reduceAdd, hD'.1, nI_lt_iff (show c < 2 ^ 31 by omega) n1, hc, r72, b72, r71, b71, hq, kw, kh, cg, ce, g, g2', g3, em, n10, zps_s, nI_1, zk_i, zk_r, zk_l, zk_n, ↓reduceIte]
                      exact nx
                  · rw [if_neg (by rw [decide_eq_false g2, Bool.false_and]; decide), ea, eh] at nx
                    have nx := nx (some (.long (lN (W p c)))) none (some (.int (H p c)))
                    rw [e_X1_nextBehind_27]
                    simp only [↓e_X1_nextBehind_8, ↓e_X1_nextBehind_18, ↓e_X1_nextBehind_21, ↓e_X1_nextBehind_24, ↓e_X1_nextBehind_33, ↓e_X1_nextBehind_36, ↓e_X1_nextBehind_39, ↓e_X1_nextBehind_43, ↓e_X1_nextBehind_46, ↓e_X1_nextBehind_50, ↓e_X1_nextBehind_56, ↓e_X1_nextBehind_59, ↓e_X1_nextBehind_62, ↓e_X1_nextBehind_65, ↓e_X1_nextBehind_73, ↓e_X1_nextBehind_83, ↓e_X1_nextBehind_92, ↓e_X1_nextBehind_97, ↓e_X1_nextBehind_104, ↓e_X1_nextBehind_110, ↓e_X1_nextBehind_125, ↓e_X1_nextBehind_131, ↓e_X1_nextBehind_137, g1 o1_58, g6 o6_59, v1 o1_58, Nat.reduceAdd, hD'.1, nI_lt_iff (show c < 2 ^ 31 by omega) n1, hc, r72, b72, r71, b71, hq, kw, kh, cg, ce, g, g2, em, n10, zps_s, nI_1, zk_i, zk_r, zk_l, zk_n, ↓reduceIte]
                    exact nx
        have start := inner nc 0 f' y7 y8 y9 (by omega) hf
        rw [nI_0] at start
        rw [e_X1_nextBehind_12]
        simp only [↓e_X1_nextBehind_8, ↓e_X1_nextBehind_18, ↓e_X1_nextBehind_21, ↓e_X1_nextBehind_24, ↓e_X1_nextBehind_33, ↓e_X1_nextBehind_36, ↓e_X1_nextBehind_39, ↓e_X1_nextBehind_43, ↓e_X1_nextBehind_46, ↓e_X1_nextBehind_50, ↓e_X1_nextBehind_56, ↓e_X1_nextBehind_59, ↓e_X1_nextBehind_62, ↓e_X1_nextBehind_65, ↓e_X1_nextBehind_73, ↓e_X1_nextBehind_83, ↓e_X1_nextBehind_92, ↓e_X1_nextBehind_97, ↓e_X1_nextBehind_104, ↓e_X1_nextBehind_110, ↓e_X1_nextBehind_125, ↓e_X1_nextBehind_131, ↓e_X1_nextBehind_137, g1 o1_58, g6 o6_59, Nat.reduceAdd, hD'.2.1, nI_lt_iff (show p < 2 ^ 31 by omega) n2, hp, zk_i, zk_r, zk_l, zk_n, ↓reduceIte]
        exact start
      · have e : nxA W H ok nc (p + 1) s0 = nxA W H ok nc p s0 := by
          rw [nxA_s]
          exact nx_id (fun c => by rw [hok]; show (decide (bh p = -1) && !decide (nI c = ca p)) = false; rw [decide_eq_false hb, Bool.false_and]) _ nc
        have nx := fun y6 => ihk (p + 1) f' y6 y7 y8 y9 (by omega) hf
        rw [e] at nx
        have b72 : f' 72 p = bh p := hD'.2.2.2.1 p hp
        have r72 := r72 (f', t)
        by_cases h0 : 0 < nc
        · have nx := nx (some (.int 0))
          have h0' : ((0 : Int32) < nI nc) = True := eq_true (by rw [← nI_0, nI_lt_iff (by decide) n1]; exact h0)
          rw [e_X1_nextBehind_12]
          simp only [↓e_X1_nextBehind_8, ↓e_X1_nextBehind_18, ↓e_X1_nextBehind_21, ↓e_X1_nextBehind_24, ↓e_X1_nextBehind_33, ↓e_X1_nextBehind_36, ↓e_X1_nextBehind_39, ↓e_X1_nextBehind_43, ↓e_X1_nextBehind_46, ↓e_X1_nextBehind_50, ↓e_X1_nextBehind_56, ↓e_X1_nextBehind_59, ↓e_X1_nextBehind_62, ↓e_X1_nextBehind_65, ↓e_X1_nextBehind_73, ↓e_X1_nextBehind_83, ↓e_X1_nextBehind_92, ↓e_X1_nextBehind_97, ↓e_X1_nextBehind_104, ↓e_X1_nextBehind_110, ↓e_X1_nextBehind_125, ↓e_X1_nextBehind_131, ↓e_X1_nextBehind_137, g1 o1_58, g6 o6_59, Nat.reduceAdd, hD'.2.1, nI_lt_iff (show p < 2 ^ 31 by omega) n2, hp, zk_i, zk_r, zk_l, zk_n, ↓reduceIte]
          rw [e_X1_nextBehind_27]
          simp only [↓e_X1_nextBehind_8, ↓e_X1_nextBehind_18, ↓e_X1_nextBehind_21, ↓e_X1_nextBehind_24, ↓e_X1_nextBehind_33, ↓e_X1_nextBehind_36, ↓e_X1_nextBehind_39, ↓e_X1_nextBehind_43, ↓e_X1_nextBehind_46, ↓e_X1_nextBehind_50, ↓e_X1_nextBehind_56, ↓e_X1_nextBehind_59, ↓e_X1_nextBehind_62, ↓e_X1_nextBehind_65, ↓e_X1_nextBehind_73, ↓e_X1_nextBehind_83, ↓e_X1_nextBehind_92, ↓e_X1_nextBehind_97, ↓e_X1_nextBehind_104, ↓e_X1_nextBehind_110, ↓e_X1_nextBehind_125, ↓e_X1_nextBehind_131, ↓e_X1_nextBehind_137, g1 o1_58, g6 o6_59, Nat.reduceAdd, hD'.1, h0', r72, b72, hb, nI_1, zk_i, zk_r, zk_l, zk_n, ↓reduceIte]
          exact nx
        · have nx := nx (some (.int 0))
          have h0' : ((0 : Int32) < nI nc) = False := eq_false (by rw [← nI_0, nI_lt_iff (by decide) n1]; exact h0)
          rw [e_X1_nextBehind_12]
          simp only [↓e_X1_nextBehind_8, ↓e_X1_nextBehind_18, ↓e_X1_nextBehind_21, ↓e_X1_nextBehind_24, ↓e_X1_nextBehind_33, ↓e_X1_nextBehind_36, ↓e_X1_nextBehind_39, ↓e_X1_nextBehind_43, ↓e_X1_nextBehind_46, ↓e_X1_nextBehind_50, ↓e_X1_nextBehind_56, ↓e_X1_nextBehind_59, ↓e_X1_nextBehind_62, ↓e_X1_nextBehind_65, ↓e_X1_nextBehind_73, ↓e_X1_nextBehind_83, ↓e_X1_nextBehind_92, ↓e_X1_nextBehind_97, ↓e_X1_nextBehind_104, ↓e_X1_nextBehind_110, ↓e_X1_nextBehind_125, ↓e_X1_nextBehind_131, ↓e_X1_nextBehind_137, g1 o1_58, g6 o6_59, Nat.reduceAdd, hD'.2.1, nI_lt_iff (show p < 2 ^ 31 by omega) n2, hp, zk_i, zk_r, zk_l, zk_n, ↓reduceIte]
          rw [e_X1_nextBehind_27]
          simp only [↓e_X1_nextBehind_8, ↓e_X1_nextBehind_18, ↓e_X1_nextBehind_21, ↓e_X1_nextBehind_24, ↓e_X1_nextBehind_33, ↓e_X1_nextBehind_36, ↓e_X1_nextBehind_39, ↓e_X1_nextBehind_43, ↓e_X1_nextBehind_46, ↓e_X1_nextBehind_50, ↓e_X1_nextBehind_56, ↓e_X1_nextBehind_59, ↓e_X1_nextBehind_62, ↓e_X1_nextBehind_65, ↓e_X1_nextBehind_73, ↓e_X1_nextBehind_83, ↓e_X1_nextBehind_92, ↓e_X1_nextBehind_97, ↓e_X1_nextBehind_104, ↓e_X1_nextBehind_110, ↓e_X1_nextBehind_125, ↓e_X1_nextBehind_131, ↓e_X1_nextBehind_137, g1 o1_58, g6 o6_59, Nat.reduceAdd, hD'.1, h0', nI_1, zk_i, zk_r, zk_l, zk_n, ↓reduceIte]
          exact nx
  obtain ⟨v, z2, ⟨e2, e3, e4⟩, kw⟩ := Hr_use (x_ways E (d + 1) hnc hnp hIL hca hbh (t := t) hD hw)
  subst e2
  obtain ⟨f2, t2⟩ := z2
  dsimp only at e3 e4
  subst e3
  have start := loop np 0 f2 none none none none (by omega) e4
  have ez : nxA W H ok nc 0 s0 = (none, odC nc np cm ca bh IL 64) := hs0
  rw [ez, nI_0] at start
  simp only [↓c_X1_nextBehind, ↓e_X1_nextBehind_0, ↓e_X1_nextBehind_8, ↓e_X1_nextBehind_18, ↓e_X1_nextBehind_21, ↓e_X1_nextBehind_24, ↓e_X1_nextBehind_33, ↓e_X1_nextBehind_36, ↓e_X1_nextBehind_39, ↓e_X1_nextBehind_43, ↓e_X1_nextBehind_46, ↓e_X1_nextBehind_50, ↓e_X1_nextBehind_56, ↓e_X1_nextBehind_59, ↓e_X1_nextBehind_62, ↓e_X1_nextBehind_65, ↓e_X1_nextBehind_73, ↓e_X1_nextBehind_83, ↓e_X1_nextBehind_92, ↓e_X1_nextBehind_97, ↓e_X1_nextBehind_104, ↓e_X1_nextBehind_110, ↓e_X1_nextBehind_125, ↓e_X1_nextBehind_131, ↓e_X1_nextBehind_137, v1 o1_58, kw, zps_s, zk_i, zk_r, zk_l, zk_n]
  exact start
