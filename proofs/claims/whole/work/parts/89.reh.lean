/-! who sits; rehearse, night -/
theorem J_bit (E : zE) (d : Nat) {n : Nat} (hn : n < 64) (h : zH) (K : Option Value → zH → Prop) : Cl E d 227 [.int (nI n)] h K = K (some (.int (nI (cnt (fun i => n.testBit i) 6)))) h := by
  simp only [↓c_J6_bitCount, ↓e_J6_bitCount_0]
  congr 3
  revert n
  decide +kernel
theorem itr_updv (v : Nat → Int32) (g : Nat → Int32) (j : Nat) : ∀ n, itr (fun i g => upd g i (v i)) n g j = if j < n then v j else g j
  | 0 => by rw [if_neg (by omega)]; rfl
  | n + 1 => by
    show upd (itr (fun i g => upd g i (v i)) n g) n (v n) j = _
    unfold upd
    by_cases e : j = n
    · subst e
      rw [if_pos rfl, if_pos (by omega)]
    · rw [if_neg e]
      have := itr_updv v g j n
      unfold upd at this
      rw [this]
      by_cases q : j < n
      · rw [if_pos q, if_pos (by omega)]
      · rw [if_neg q, if_neg (by omega)]
theorem b_tb (x : Int32) (i : Nat) : bt x i = x.toBitVec.toNat.testBit i := rfl
theorem nI_tn (x : Int32) : x = nI x.toBitVec.toNat := Int32.toBitVec_inj.mp (by show _ = BitVec.ofNat 32 _; simp)
section RTS
variable {z : zS} {np nc ns nl ny ch ea : Nat}
theorem q_hs {z : zS} {n c : Nat} {m : Int32} (hn : n ≤ 6) : itr (hasF z (nI c) m) n false = true ↔ ∃ p, p < n ∧ z.1 130 (18 + p) = nI c ∧ bt m p = true := by
  have := itr_or (fun i => decide (z.1 130 (18 + i) = nI c) && bitC m (nI i)) n false
  refine Iff.trans this ?_
  constructor
  · rintro (q | ⟨i, hi, q⟩)
    · exact absurd q (by decide)
    · rw [Bool.and_eq_true, decide_eq_true_iff, bitC_bt (by omega)] at q
      exact ⟨i, hi, q⟩
  · rintro ⟨i, hi, q⟩
    refine Or.inr ⟨i, hi, ?_⟩
    show (decide (z.1 130 (18 + i) = nI c) && bitC m (nI i)) = true
    rw [Bool.and_eq_true, decide_eq_true_iff, bitC_bt (by omega)]
    exact q
theorem b63 : ∀ i, i < 6 → bt 63 i = true := by decide +kernel
theorem q_sit {z : zS} {n s c : Nat} (hn : n ≤ 6) : sitB z n s (nI c) = true ↔ (∃ p, p < n ∧ z.1 130 (18 + p) = nI c) ∧ ¬ ∃ p, p < n ∧ z.1 130 (18 + p) = nI c ∧ bt (z.1 130 (90 + 2 * s + 1)) p = true := by
  unfold sitB
  rw [Bool.and_eq_true, q_hs (m := 63) hn, ← q_hs (m := z.1 130 (90 + 2 * s + 1)) hn]
  constructor
  · rintro ⟨⟨p, hp, e, -⟩, q⟩
    refine ⟨⟨p, hp, e⟩, fun q2 => ?_⟩
    rw [q2] at q
    exact absurd q (by decide)
  · rintro ⟨⟨p, hp, e⟩, q⟩
    refine ⟨⟨p, hp, e, b63 p (by omega)⟩, ?_⟩
    cases hb : itr (hasF z (nI c) (z.1 130 (90 + 2 * s + 1))) n false with
    | false => rfl
    | true => exact absurd hb q
theorem q_siF (h : RT z.1 1 0 np nc ns nl ny ch ea) {s c : Nat} (hs : s < ns) (hc : c < 32) : ∀ k, k ≤ np → (bt (itr (siF z 1 (nI s)) k (0, 0)).1 c = true ↔ ∃ p, p < k ∧ z.1 130 (18 + p) = nI c) ∧ (bt (itr (siF z 1 (nI s)) k (0, 0)).2 c = true ↔ ∃ p, p < k ∧ z.1 130 (18 + p) = nI c ∧ bt (z.1 130 (90 + 2 * s + 1)) p = true)
  | 0, _ => by
    refine ⟨⟨fun q => absurd q (by rw [show (itr (siF z 1 (nI s)) 0 (0, 0)).1 = 0 from rfl, b_0]; decide), ?_⟩, ⟨fun q => absurd q (by rw [show (itr (siF z 1 (nI s)) 0 (0, 0)).2 = 0 from rfl, b_0]; decide), ?_⟩⟩
    · rintro ⟨p, hp, -⟩
      omega
    · rintro ⟨p, hp, -⟩
      omega
  | k + 1, hk => by
    obtain ⟨ih1, ih2⟩ := q_siF h hs hc k (by omega)
    obtain ⟨hcc, hm, hn⟩ := rt_F h
    have e : itr (siF z 1 (nI s)) (k + 1) (0, 0) = siF z 1 (nI s) k (itr (siF z 1 (nI s)) k (0, 0)) := rfl
    rw [e]
    generalize itr (siF z 1 (nI s)) k (0, 0) = b at ih1 ih2
    have pk := rt_P h (show k < np by omega)
    unfold siF
    rw [show z.1 (1 + 13) k = z.1 130 (18 + k) from pk.2.2.2.1, show z.1 (1 + 1) 4 = nI nc from hcc.2.1, show plB z (1 + 1) (nI s) (nI k) = bt (z.1 130 (90 + 2 * s + 1)) k from q_pl h hs (by omega)]
    have sp : ∀ P : Nat → Prop, (∃ p, p < k + 1 ∧ P p) ↔ (∃ p, p < k ∧ P p) ∨ P k := fun P => by
      constructor
      · rintro ⟨p, hp, q⟩
        by_cases e : p = k
        · subst e
          exact Or.inr q
        · exact Or.inl ⟨p, by omega, q⟩
      · rintro (⟨p, hp, q⟩ | q)
        · exact ⟨p, by omega, q⟩
        · exact ⟨k, by omega, q⟩
    rw [sp (fun p => z.1 130 (18 + p) = nI c), sp (fun p => z.1 130 (18 + p) = nI c ∧ bt (z.1 130 (90 + 2 * s + 1)) p = true)]
    rcases pk.2.2.2.2.2.2.2.2.2.1 with q | ⟨j, hj, q⟩
    · rw [q, inB_m1, if_neg (by decide)]
      have ne : ¬ (-1 : Int32) = nI c := fun e => by
        have := (nI_pos (show c < 2 ^ 31 by omega))
        rw [← e] at this
        exact this (by decide)
      exact ⟨ih1.trans ⟨Or.inl, fun x => x.elim id (fun y => absurd y ne)⟩, ih2.trans ⟨Or.inl, fun x => x.elim id (fun y => absurd y.1 ne)⟩⟩
    · rw [q, inB_nI (by omega) (by omega), decide_eq_true hj, if_pos rfl]
      have ec : (nI j = nI c) ↔ c = j := by
        rw [nI_eq (by omega) (by omega)]
        exact eq_comm
      dsimp only
      refine ⟨?_, ?_⟩
      · rw [b_or, Bool.or_eq_true, ih1, b_one (by omega) hc, decide_eq_true_iff, ec]
      · cases hb : bt (z.1 130 (90 + 2 * s + 1)) k with
        | false =>
          rw [if_neg (by decide), ih2]
          exact ⟨Or.inl, fun x => x.elim id (fun y => absurd y.2 (by decide))⟩
        | true =>
          rw [if_pos rfl, b_or, Bool.or_eq_true, ih2, b_one (by omega) hc, decide_eq_true_iff, ec]
          exact or_congr_right ⟨fun e => ⟨e, rfl⟩, fun e => e.1⟩
theorem q_si (h : RT z.1 1 0 np nc ns nl ny ch ea) {s c : Nat} (hs : s < ns) (hc : c < 32) : bt (siZ z 1 np (nI s)) c = sitB z np s (nI c) := by
  obtain ⟨hcc, hm, hn⟩ := rt_F h
  obtain ⟨a, b⟩ := q_siF h hs hc np (Nat.le_refl _)
  rw [Bool.eq_iff_iff, q_sit hn.1]
  unfold siZ
  rw [b_and, b_xor, b_m1 c hc, Bool.and_eq_true, a, ← b]
  cases bt (itr (siF z 1 (nI s)) np (0, 0)).2 c <;> simp
theorem q_sf (h : RT z.1 1 0 np nc ns nl ny ch ea) {s c : Nat} (hc : nc ≤ c) (hc2 : c < 2 ^ 31) : sitB z np s (nI c) = false := by
  obtain ⟨hcc, hm, hn⟩ := rt_F h
  cases hb : sitB z np s (nI c) with
  | false => rfl
  | true =>
    obtain ⟨⟨p, hp, e⟩, -⟩ := (q_sit hn.1).mp hb
    rcases (rt_P h hp).2.2.2.2.2.2.2.2.2.1 with q | ⟨j, hj, q⟩
    · rw [q] at e
      have := nI_pos hc2
      rw [← e] at this
      exact absurd (by decide) this
    · rw [q, nI_eq (by omega) hc2] at e
      omega
/-- how many sit -/
def siN (z : zS) (np nc s : Nat) : Nat := cnt (fun c => sitB z np s (nI c)) nc
theorem cnt_ext {P : Nat → Bool} {m : Nat} : ∀ n, m ≤ n → (∀ i, m ≤ i → i < n → P i = false) → cnt P n = cnt P m
  | 0, hm, _ => by rw [show m = 0 by omega]
  | n + 1, hm, hP => by
    by_cases e : m = n + 1
    · rw [e]
    · show cnt P n + (if P n = true then 1 else 0) = _
      rw [hP n (by omega) (by omega), cnt_ext n (by omega) (fun i h1 h2 => hP i h1 (by omega))]
      rfl
theorem q_siN (h : RT z.1 1 0 np nc ns nl ny ch ea) {s : Nat} (hs : s < ns) : ∃ n, n < 64 ∧ siZ z 1 np (nI s) = nI n ∧ cnt (fun i => n.testBit i) 6 = siN z np nc s := by
  obtain ⟨hcc, hm, hn⟩ := rt_F h
  refine ⟨(siZ z 1 np (nI s)).toBitVec.toNat, Nat.lt_pow_two_of_testBit (n := 6) _ (fun i hi => ?_), nI_tn _, ?_⟩
  · by_cases q : i < 32
    · rw [← b_tb, q_si h hs q, q_sf h (by omega) (by omega)]
    · rw [← b_tb, b_big (by omega)]
  · unfold siN
    rw [cnt_congr 6 (Q := fun c => sitB z np s (nI c)) (fun i hi => by rw [← b_tb, q_si h hs (by omega)])]
    exact cnt_ext 6 (by omega) (fun i h1 h2 => q_sf h h1 (by omega))
end RTS
