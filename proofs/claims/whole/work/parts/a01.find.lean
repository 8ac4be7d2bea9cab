/-! CastSearch: findBest, findWithout -/
theorem pts_in (v : Nat → Int32) (p n : Nat) (g : Nat → Int32) (x : Nat) : itr (fun c g => upd g (6 * p + c) (v c)) n g x = if 6 * p ≤ x ∧ x < 6 * p + n then v (x - 6 * p) else g x := by
  induction n with
  | zero =>
    rw [if_neg (by omega)]
    rfl
  | succ n ih =>
    rw [itr_s]
    unfold upd
    by_cases e : x = 6 * p + n
    · subst e
      rw [if_pos rfl, if_pos (by omega), show 6 * p + n - 6 * p = n by omega]
    · rw [if_neg e]
      unfold upd at ih
      rw [ih]
      by_cases q : 6 * p ≤ x ∧ x < 6 * p + n
      · rw [if_pos q, if_pos (by omega)]
      · rw [if_neg q, if_neg (by omega)]
theorem pts_all (v : Nat → Nat → Int32) {n : Nat} (hn : n ≤ 6) (g : Nat → Int32) : ∀ k p c, p < k → c < n → itr (fun p g => itr (fun c g => upd g (6 * p + c) (v p c)) n g) k g (6 * p + c) = v p c
  | 0, p, c, hp, _ => by omega
  | k + 1, p, c, hp, hc => by
    rw [itr_s, pts_in (v k)]
    by_cases e : p = k
    · subst e
      rw [if_pos (by omega), show 6 * p + c - 6 * p = c by omega]
    · rw [if_neg (by omega)]
      exact pts_all v hn g k p c (by omega) hc
def fitI (z : zS) (p c : Nat) : Int := (fitM z c p).toInt
theorem q_fitI {z : zS} {np nc ns nl ny ch ea : Nat} (h : RT z.1 1 0 np nc ns nl ny ch ea) {c p : Nat} (hc : c < nc) (hp : p < np) : fitZ z 2 (nI c) (nI p) = iI (fitI z p c) ∧ fitM z c p = iI (fitI z p c) ∧ 0 ≤ fitI z p c ∧ fitI z p c ≤ 25 := by
  obtain ⟨n, hn, e1, e2⟩ := q_fit h hc hp
  have e : fitI z p c = (n : Int) := by
    unfold fitI
    rw [e2, nI_toInt (by omega)]
  rw [e, e1, e2, iI_n]
  exact ⟨rfl, rfl, by omega, by omega⟩
theorem fitZ_c {z z' : zS} (h : ∀ r, r < 38 → z'.1 r = z.1 r) (c p : Int32) : fitZ z' 2 c p = fitZ z 2 c p := by
  unfold fitZ rkZ
  simp only [Nat.reduceAdd]
  rw [h 2 (by decide), h 3 (by decide), h 8 (by decide), h 5 (by decide), h 6 (by decide), h 9 (by decide), h 11 (by decide)]
theorem x_findBest (E : zE) (d : Nat) {z : zS} {np nc ns nl ny ch ea : Nat} (h : RT z.1 1 0 np nc ns nl ny ch ea) : Hr E (d + 9) 1 [.ref 38, .ref 1] z (fun r z' => ∃ o : Option Nat, r = some (.int (bI o.isSome)) ∧ z'.2 = z.2 ∧ (∀ r, r < 38 ∨ 44 < r → z'.1 r = z.1 r) ∧ Pk (Vd nc np (lcrow z np ns ch) (-1) ea) (scd nc np (fitI z)) (nc ^ np) o ∧ SR z'.1 nc np (fitI z) o) := by
  obtain ⟨hc, hm, hn⟩ := rt_F h
  have n1 : np < 2 ^ 31 := by omega
  have n2 : nc < 2 ^ 31 := by omega
  obtain ⟨f, ep, h3, h4, h5, h6, h42, h44, hfr⟩ := x_prep E (d + 3) h (-1) (nI ea)
  obtain ⟨G, hG⟩ : ∃ G : Nat → Int32, G = itr (fun p g => itr (fun c g => upd g (6 * p + c) (iI (fitI z p c))) nc g) np (f 40) := ⟨_, rfl⟩
  have rG : ∀ (g : Nat → Int32) r, r ≠ 40 → setR f 40 g r = f r := fun g r hr => setR_n hr _ _
  have rz : ∀ (g : Nat → Int32) r, r < 38 → setR f 40 g r = z.1 r := fun g r hr => by rw [rG g r (by omega), hfr r (by omega) (by omega) (by omega)]
  have hD : D0 (setR f 40 G) nc np (lcrow z np ns ch) (-1) ea (fitI z) := by
    refine ⟨by rw [rG _ 38 (by decide)]; exact h3, by rw [rG _ 38 (by decide)]; exact h4, by rw [rG _ 38 (by decide)]; exact h5, by rw [rG _ 38 (by decide)]; exact h6, fun p hp c hc => ?_, fun p hp => by rw [rG _ 42 (by decide)]; exact h42 p hp, fun c hc => by rw [rG _ 44 (by decide)]; exact h44 c hc⟩
    rw [setR_s, hG, pts_all (fun p c => iI (fitI z p c)) (by omega) _ np p c hp hc]
  obtain ⟨r, z3, ⟨o, hr, ht, hf3, p3, s3⟩, e3⟩ := Hr_use (x_search E d (t := z.2) hn.2.1 hn.1 hn.2.2.2.2.1 (fun p hp c hc => by have := (q_fitI h hc hp).2.2; omega) hD)
  unfold Hr
  generalize hQ : (fun (r : Option Value) (h : zH) => ∃ z', h = HP z' ∧ ∃ o : Option Nat, r = some (.int (bI o.isSome)) ∧ z'.2 = z.2 ∧ (∀ r, r < 38 ∨ 44 < r → z'.1 r = z.1 r) ∧ Pk (Vd nc np (lcrow z np ns ch) (-1) ea) (scd nc np (fitI z)) (nc ^ np) o ∧ SR z'.1 nc np (fitI z) o) = Q
  have loop := itr_junk (fun i (g : Nat → Int32) (x : Option Value) => Ev E (d + 9) zm_X0_findBest 12 [some (.ref 38), some (.ref 1), some (.int (nI i)), x] [] (HP (setR f 40 g, z.2)) Q) (fun p g => itr (fun c g => upd g (6 * p + c) (iI (fitI z p c))) nc g) (f 40) np (fun i x hi => ⟨some (.int (nI nc)), by
    generalize itr _ i _ = g
    show Ev E (d + 9) zm_X0_findBest 12 _ _ _ _ = _
    have inner := itr_eq (fun j g => Ev E (d + 9) zm_X0_findBest 22 [some (.ref 38), some (.ref 1), some (.int (nI i)), some (.int (nI j))] [] (HP (setR f 40 g, z.2)) Q) (fun c g => upd g (6 * i + c) (iI (fitI z i c))) g nc (fun j hj => by
      generalize itr _ j _ = g
      have e6 : nI i * 6 + nI j = nI (6 * i + j) := by
        have : nI i * 6 = nI (i * 6) := nI_mul i 6
        rw [this, nI_add, Nat.mul_comm]
      have hfit := s_fitOf isS_2 (z := (setR f 40 g, z.2)) (wfS_c (z := z) (o := 2) (rz g 2 (by decide)) (rt_wf h)) E (d + 6) (nI j) (nI i)
      rw [fitZ_c (z := z) (rz g), (q_fitI h hj hi).1] at hfit
      rw [e_X0_findBest_22]
      simp only [↓e_X0_findBest_7, ↓e_X0_findBest_10, ↓e_X0_findBest_17, ↓e_X0_findBest_20, ↓e_X0_findBest_27, ↓e_X0_findBest_30, ↓e_X0_findBest_34, ↓e_X0_findBest_44, ↓e_X0_findBest_49, ↓e_X0_findBest_50, ↓e_X0_findBest_56, ↓e_X0_findBest_62, ↓e_X0_findBest_66, g0 o0_38, g7 o7_1, v6 o6_2, Nat.reduceAdd, rG g 38 (by decide), h4, e6, hfit, wi_k i40 (show 6 * i + j < 36 by omega) (by decide), set2_R, setR_s, setR_2, zps_s, zk_i, zk_r, zk_n, nI_lt_iff (show j < 2 ^ 31 by omega) n2, hj, ↓reduceIte, nI_1])
    rw [nI_0] at inner
    rw [e_X0_findBest_12]
    simp only [↓e_X0_findBest_7, ↓e_X0_findBest_10, ↓e_X0_findBest_17, ↓e_X0_findBest_20, ↓e_X0_findBest_27, ↓e_X0_findBest_30, ↓e_X0_findBest_34, ↓e_X0_findBest_44, ↓e_X0_findBest_49, ↓e_X0_findBest_50, ↓e_X0_findBest_56, ↓e_X0_findBest_62, ↓e_X0_findBest_66, g0 o0_38, Nat.reduceAdd, rG g 38 (by decide), h3, zk_i, zk_r, zk_n, nI_lt_iff (show i < 2 ^ 31 by omega) n1, hi, ↓reduceIte]
    rw [inner, e_X0_findBest_22]
    simp only [↓e_X0_findBest_7, ↓e_X0_findBest_10, ↓e_X0_findBest_17, ↓e_X0_findBest_20, ↓e_X0_findBest_27, ↓e_X0_findBest_30, ↓e_X0_findBest_34, ↓e_X0_findBest_44, ↓e_X0_findBest_49, ↓e_X0_findBest_50, ↓e_X0_findBest_56, ↓e_X0_findBest_62, ↓e_X0_findBest_66, g0 o0_38, Nat.reduceAdd, rG _ 38 (show (38 : Nat) ≠ 40 by decide), h4, zk_i, zk_r, zk_n, nI_lt_iff n2 n2, Nat.lt_irrefl, nI_1, ↓reduceIte]⟩) (R := Q (some (.int (bI o.isSome))) (HP z3)) (fun x => by
    show Ev E (d + 9) zm_X0_findBest 12 _ _ _ _ = _
    rw [← hG, e_X0_findBest_12]
    simp only [↓e_X0_findBest_7, ↓e_X0_findBest_10, ↓e_X0_findBest_17, ↓e_X0_findBest_20, ↓e_X0_findBest_27, ↓e_X0_findBest_30, ↓e_X0_findBest_34, ↓e_X0_findBest_44, ↓e_X0_findBest_49, ↓e_X0_findBest_50, ↓e_X0_findBest_56, ↓e_X0_findBest_62, ↓e_X0_findBest_66, g0 o0_38, v0 o0_38, Nat.reduceAdd, rG G 38 (by decide), h3, e3, hr, zps_s, bI_01, true_and, zk_i, zk_r, zk_n, nI_lt_iff n1 n1, Nat.lt_irrefl, ↓reduceIte])
  simp only [↓c_X0_findBest, ↓e_X0_findBest_0, ↓e_X0_findBest_7, ↓e_X0_findBest_10, ↓e_X0_findBest_17, ↓e_X0_findBest_20, ↓e_X0_findBest_27, ↓e_X0_findBest_30, ↓e_X0_findBest_34, ↓e_X0_findBest_44, ↓e_X0_findBest_49, ↓e_X0_findBest_50, ↓e_X0_findBest_56, ↓e_X0_findBest_62, ↓e_X0_findBest_66, g7 o7_1, v0 o0_38, Nat.reduceAdd, hc.2.2.2.2.1, ep, zps_n, zk_i, zk_r, zk_n]
  have l0 := loop none
  rw [nI_0, setR_id] at l0
  rw [l0, ← hQ]
  exact ⟨z3, rfl, o, rfl, ht, fun r hr => by rw [hf3 r hr, rG G r (by omega), hfr r (by omega) (by omega) (by omega)], p3, s3⟩
