/-! GAINS: numbers; the class -/
def oZ (w : Nat → Int32) (nc : Nat) (r : Int32) : Nat → Int32 := llZ w nc r (fun _ => 0)
def rkW (W : Nat → Int32) (c : Nat) (p : Int32) : Int32 := if p = -1 then 3 else rkF (W (3 * c)) (W (3 * c + 1)) (W (3 * c + 2)) p
def up3 (W : Nat → Int32) (c : Nat) (a b e : Int32) : Nat → Int32 := upd (upd (upd W (3 * c) a) (3 * c + 1) b) (3 * c + 2) e
theorem up3_n {W : Nat → Int32} {c x : Nat} {a b e : Int32} (h : ¬ (3 * c ≤ x ∧ x < 3 * c + 3)) : up3 W c a b e x = W x := by
  unfold up3 upd
  rw [if_neg (by omega), if_neg (by omega), if_neg (by omega)]
theorem up3_0 (W : Nat → Int32) (c : Nat) (a b e : Int32) : up3 W c a b e (3 * c) = a ∧ up3 W c a b e (3 * c + 1) = b ∧ up3 W c a b e (3 * c + 2) = e := by
  unfold up3 upd
  refine ⟨?_, ?_, ?_⟩
  · rw [if_neg (by omega), if_neg (by omega), if_pos rfl]
  · rw [if_neg (by omega), if_pos rfl]
  · rw [if_pos rfl]
theorem ll_or {w g : Nat → Int32} {nc np : Nat} (hnc : nc ≤ 6) {r : Int32} (hw : ∀ x, x < 3 * nc → orN (w x) np) {c : Nat} (hc : c < nc) : orN (llZ w nc r g c) np := by
  have key : ∀ n, n ≤ 3 * nc → ∀ c, c < nc → orN (itr (llF w nc r) n (itr (fun i g => upd g i (-1)) 6 g) c) np := by
    intro n
    induction n with
    | zero =>
      intro _ c hc
      rw [itr_z, itr_updv (fun _ => -1), if_pos (by omega)]
      exact Or.inl rfl
    | succ n ih =>
      intro hn c hc
      rw [itr_s (llF w nc r)]
      have i := ih (by omega)
      generalize itr (llF w nc r) n (itr (fun i g => upd g i (-1)) 6 g) = a at i
      have gv : ∀ c' k, c' < nc → k < 3 → orN (gvF w nc c' k a c) np := fun c' k hc' hk => by
        unfold gvF upd
        by_cases e : c = c'
        · rw [if_pos e]
          by_cases q : a c' = -1 ∧ frB a nc (w (3 * c' + k)) = true
          · rw [if_pos q]
            exact hw _ (by omega)
          · rw [if_neg q]
            exact i c' hc'
        · rw [if_neg e]
          exact i c hc
      unfold llF
      by_cases hr : r = 0
      · rw [if_pos hr]
        exact gv _ _ (by omega) (by omega)
      · rw [if_neg hr]
        have hn0 : 0 < nc := by omega
        exact gv _ _ (Nat.mod_lt _ hn0) ((Nat.div_lt_iff_lt_mul hn0).mpr (by omega))
  exact key (3 * nc) (Nat.le_refl _) c hc
theorem rkW_le (W : Nat → Int32) (c : Nat) (p : Int32) : ∃ k, k ≤ 3 ∧ rkW W c p = nI k := by
  unfold rkW
  split
  · exact ⟨3, by decide, rfl⟩
  · exact rkF_le _ _ _ _
/-- by one part alone -/
def gnC (W : Nat → Int32) (nc np : Nat) (r : Int32) (c : Nat) : Prop := ∃ p, p < np ∧ rkW W c (oZ (up3 W c (nI p) (-1) (-1)) nc r c) < rkW W c (oZ W nc r c)
def okR (a b e : Int32) : Prop := ¬ a = b ∧ ¬ a = e ∧ (if b = -1 then e = -1 else ¬ b = e)
/-- by a row of up to three -/
def gnR (W : Nat → Int32) (nc np : Nat) (r : Int32) (c : Nat) : Prop := ∃ k, k < np * (np + 1) * (np + 1) ∧ okR (nI (k % np)) (nI (k / np % (np + 1)) - 1) (nI (k / np / (np + 1)) - 1) ∧ rkW W c (oZ (up3 W c (nI (k % np)) (nI (k / np % (np + 1)) - 1) (nI (k / np / (np + 1)) - 1)) nc r c) < rkW W c (oZ W nc r c)
theorem orN_m1 {n np : Nat} (h : n ≤ np) : orN (nI n - 1) np := by
  rcases Nat.eq_zero_or_pos n with e | e
  · subst e
    exact Or.inl (by decide)
  · refine Or.inr ⟨n - 1, by omega, ?_⟩
    obtain ⟨m, rfl⟩ : ∃ m, n = m + 1 := ⟨n - 1, by omega⟩
    rw [nI_pred]
    rfl
theorem gn_iff {W : Nat → Int32} {nc np c : Nat} (hnc : nc ≤ 6) (hnp : np ≤ 6) (hc : c < nc) (hW : ∀ x, x < 3 * nc → orN (W x) np) (r : Int32) : gnR W nc np r c ↔ gnC W nc np r c := by
  constructor
  · rintro ⟨k, hk, -, hlt⟩
    have hnp0 : 0 < np := by
      rcases Nat.eq_zero_or_pos np with e | e
      · subst e
        omega
      · exact e
    have hd : k / np / (np + 1) < np + 1 := by
      rw [Nat.div_lt_iff_lt_mul (by omega), Nat.div_lt_iff_lt_mul hnp0]
      rw [Nat.mul_comm, ← Nat.mul_assoc]
      exact hk
    have hor : ∀ x, x < 3 * nc → orN (up3 W c (nI (k % np)) (nI (k / np % (np + 1)) - 1) (nI (k / np / (np + 1)) - 1) x) np := fun x hx => by
      by_cases e : 3 * c ≤ x ∧ x < 3 * c + 3
      · obtain ⟨u0, u1, u2⟩ := up3_0 W c (nI (k % np)) (nI (k / np % (np + 1)) - 1) (nI (k / np / (np + 1)) - 1)
        obtain e | e | e : x = 3 * c ∨ x = 3 * c + 1 ∨ x = 3 * c + 2 := by omega
        · rw [e, u0]
          exact Or.inr ⟨k % np, Nat.mod_lt _ hnp0, rfl⟩
        · rw [e, u1]
          exact orN_m1 (by have := Nat.mod_lt (k / np) (show 0 < np + 1 by omega); omega)
        · rw [e, u2]
          exact orN_m1 (by omega)
      · rw [up3_n e]
        exact hW x hx
    have hq := ll_or (g := fun _ => 0) hnc (r := r) hor hc
    have hq' : orN (oZ (up3 W c (nI (k % np)) (nI (k / np % (np + 1)) - 1) (nI (k / np / (np + 1)) - 1)) nc r c) np := hq
    rcases hq' with e | ⟨p, hp, e⟩
    · rw [e] at hlt
      obtain ⟨j, hj, ej⟩ := rkW_le W c (oZ W nc r c)
      rw [ej, show rkW W c (-1) = nI 3 from rfl] at hlt
      exact absurd hlt (nI_nlt (by omega) (by decide))
    · refine ⟨p, hp, ?_⟩
      have hg : oZ (up3 W c (nI p) (-1) (-1)) nc r c = nI p := by
        unfold oZ at e ⊢
        exact ll_gets (w1 := up3 W c (nI (k % np)) (nI (k / np % (np + 1)) - 1) (nI (k / np / (np + 1)) - 1)) hnc hc (fun x hx => by rw [up3_n hx, up3_n hx]) (fun e => (nIn1 (show p < 6 by omega)).mp e) (up3_0 W c (nI p) (-1) (-1)).1 e
      rw [hg]
      rw [e] at hlt
      exact hlt
  · rintro ⟨p, hp, hlt⟩
    have e1 : p % np = p := Nat.mod_eq_of_lt hp
    have e2 : p / np = 0 := Nat.div_eq_of_lt hp
    have m1 : nI 0 - 1 = -1 := by decide
    have hne : ¬ nI p = -1 := fun e => (nIn1 (show p < 6 by omega)).mp e
    refine ⟨p, ?_, ?_, ?_⟩
    · have : np * 1 * 1 ≤ np * (np + 1) * (np + 1) := Nat.mul_le_mul (Nat.mul_le_mul_left np (by omega)) (by omega)
      omega
    · rw [e1, e2, Nat.zero_mod, Nat.zero_div, m1]
      exact ⟨hne, hne, by rw [if_pos rfl]⟩
    · rw [e1, e2, Nat.zero_mod, Nat.zero_div, m1]
      exact hlt
/-- the state of the class's draw -/
def LD (f : Nat → Nat → Int32) (nc np ns : Nat) (r : Int32) (W : Nat → Int32) : Prop := f 78 4 = nI nc ∧ f 78 0 = nI np ∧ f 78 11 = nI ns ∧ f 76 2 = r ∧ ∀ x, x < 18 → f 87 x = W x
section GA
variable {nc np ns : Nat} {r : Int32} {W : Nat → Int32}
theorem LD_c {f f' : Nat → Nat → Int32} (h78 : f' 78 = f 78) (h87 : f' 87 = f 87) (h76 : f' 76 2 = f 76 2) (h : LD f nc np ns r W) : LD f' nc np ns r W := by
  unfold LD
  rw [h78, h87, h76]
  exact h
theorem l_run2 (E : zE) (d : Nat) (hnc : nc ≤ 6) (hnp : np ≤ 6) {f : Nat → Nat → Int32} {t : (Nat → Nat → Int64) × Nat} (hD : LD f nc np ns r W) (hw : ∀ x, x < 3 * nc → orN (f 90 x) np) : ∃ f1 : Nat → Nat → Int32, (∀ K, Cl E (d + 2) 30 [.ref 76] (HP (f, t)) K = K none (HP (f1, t))) ∧ LD f1 nc np ns r W ∧ (∀ a, a ≠ 76 → a ≠ 77 → f1 a = f a) ∧ ∀ c, c < 6 → f1 77 c = oZ (f 90) nc r c := by
  have lr := l_run E d (z := (f, t)) hnc hD.1 hD.2.1
  have er := ru_ll (z := (f, t)) hnc hnp (fun c hc k hk => hw (3 * c + k) (by omega))
  rw [show ((f, t) : zS).1 = f from rfl, show ((f, t) : zS).2 = t from rfl] at lr
  rw [show ((f, t) : zS).1 = f from rfl] at er
  refine ⟨_, lr, LD_c (f := f) ?_ ?_ ?_ hD, fun a h1 h2 => ?_, fun c hc => ?_⟩
  · rw [setR_n (by decide), setR_n (by decide)]
  · rw [setR_n (by decide), setR_n (by decide)]
  · rw [setR_s]
    rfl
  · rw [setR_n h1, setR_n h2]
  · rw [setR_n (by decide), setR_s, er, hD.2.2.2.1]
    exact ll_c hnc (fun _ _ => rfl) c hc
theorem l_rank (E : zE) (d : Nat) (hnc : nc ≤ 6) (hnp : np ≤ 6) (hns : ns ≤ 7) {f : Nat → Nat → Int32} {t : (Nat → Nat → Int64) × Nat} (hD : LD f nc np ns r W) {c : Nat} (hc : c < nc) {g : Int32} (hg : orN g np) (K : Option Value → zH → Prop) : Cl E (d + 1) 65 [.ref 78, .int (nI c), .int g] (HP (f, t)) K = K (some (.int (rkW W c g))) (HP (f, t)) := by
  rw [s_rankOf isS_78 (z := (f, t)) (np := np) (nc := nc) (ns := ns) ⟨hD.2.1, hD.1, hD.2.2.1, hnp, hnc, hns⟩]
  have e : rkZ (f, t) 78 (nI c) g = rkW W c g := by
    obtain ⟨e0, e1, e2, e3⟩ := nI_3 (show c < 6 by omega)
    have a1 : inB (nI c) (f 78 4) = true := by rw [hD.1, inB_nI (by omega) (by omega)]; exact decide_eq_true hc
    unfold rkZ rkW
    rcases hg with rfl | ⟨p, hp, rfl⟩
    · have a2 : ¬ (inB (nI c) (f 78 4) && inB (-1) (f 78 0)) = true := by rw [inB_m1, Bool.and_false]; decide
      exact (if_neg a2).trans (if_pos rfl).symm
    · have a2 : (inB (nI c) (f 78 4) && inB (nI p) (f 78 0)) = true := by
        rw [a1, hD.2.1, inB_nI (by omega) (by omega), decide_eq_true hp]
        rfl
      refine (if_pos a2).trans ?_
      rw [if_neg (fun e => (nIn1 (show p < 6 by omega)).mp e), e0, e2, e3, nI_cl (by omega), nI_cl (by omega), nI_cl (by omega)]
      show rkF (f 87 (3 * c)) (f 87 (3 * c + 1)) (f 87 (3 * c + 2)) (nI p) = _
      rw [hD.2.2.2.2 _ (by omega), hD.2.2.2.2 _ (by omega), hD.2.2.2.2 _ (by omega)]
  rw [e]
theorem oZ_c {w w' : Nat → Int32} (hnc : nc ≤ 6) (h : ∀ x, x < 3 * nc → w x = w' x) {c : Nat} (hc : c < 6) : oZ w nc r c = oZ w' nc r c := ll_c hnc h c hc
theorem x_gba (E : zE) (d : Nat) (hnc : nc ≤ 6) (hnp : np ≤ 6) (hns : ns ≤ 7) (hW : ∀ x, x < 3 * nc → orN (W x) np) {c : Nat} (hc : c < nc) (rk : Int32) {f : Nat → Nat → Int32} {t : (Nat → Nat → Int64) × Nat} (hD : LD f nc np ns r W) (h90 : ∀ x, x < 3 * nc → ¬ (3 * c ≤ x ∧ x < 3 * c + 3) → f 90 x = W x) : Hr E (d + 3) 34 [.ref 76, .int (nI c), .int rk] (f, t) (fun v z' => z'.2 = t ∧ LD z'.1 nc np ns r W ∧ (∀ a, a ≠ 76 → a ≠ 77 → a ≠ 90 → z'.1 a = f a) ∧ ∃ b : Bool, v = some (.int (bI b)) ∧ (b = true ↔ ∃ p, p < np ∧ rkW W c (oZ (up3 W c (nI p) (-1) (-1)) nc r c) < rk)) := by
  have n1 : np < 2 ^ 31 := by omega
  unfold Hr
  generalize hQ : (fun (v : Option Value) (h : zH) => ∃ z' : zS, h = HP z' ∧ (z'.2 = t ∧ LD z'.1 nc np ns r W ∧ (∀ a, a ≠ 76 → a ≠ 77 → a ≠ 90 → z'.1 a = f a) ∧ ∃ b : Bool, v = some (.int (bI b)) ∧ (b = true ↔ ∃ p, p < np ∧ rkW W c (oZ (up3 W c (nI p) (-1) (-1)) nc r c) < rk))) = Q
  have loop : ∀ k p (f' : Nat → Nat → Int32), p + k = np → LD f' nc np ns r W → (∀ a, a ≠ 76 → a ≠ 77 → a ≠ 90 → f' a = f a) → (∀ x, x < 3 * nc → ¬ (3 * c ≤ x ∧ x < 3 * c + 3) → f' 90 x = W x) → (∀ p', p' < p → ¬ rkW W c (oZ (up3 W c (nI p') (-1) (-1)) nc r c) < rk) → Ev E (d + 3) zm_X3_gainsByAnother 2 [some (.ref 76), some (.int (nI c)), some (.int rk), some (.int (nI p))] [] (HP (f', t)) Q := by
    intro k
    induction k with
    | zero =>
      intro p f' hpk hD' hf' h90' hno
      have e : p = np := by omega
      subst e
      have q : Q (some (.int 0)) (HP (f', t)) := by
        rw [← hQ]
        exact ⟨(f', t), rfl, rfl, hD', hf', false, rfl, ⟨fun q => absurd q (by decide), fun ⟨p', hp', q⟩ => absurd q (hno p' hp')⟩⟩
      rw [e_X3_gainsByAnother_2]
      simp only [↓e_X3_gainsByAnother_7, ↓e_X3_gainsByAnother_10, ↓e_X3_gainsByAnother_13, ↓e_X3_gainsByAnother_19, ↓e_X3_gainsByAnother_23, ↓e_X3_gainsByAnother_27, ↓e_X3_gainsByAnother_32, ↓e_X3_gainsByAnother_34, ↓e_X3_gainsByAnother_37, ↓e_X3_gainsByAnother_41, ↓e_X3_gainsByAnother_43, ↓e_X3_gainsByAnother_49, g3 o3_76, g6 isS_78.1, Nat.reduceAdd, hD'.2.1, nI_lt_iff n1 n1, Nat.lt_irrefl, true_or, true_and, zk_i, zk_r, zk_n, ↓reduceIte]
      exact q
    | succ k ihk =>
      intro p f' hpk hD' hf' h90' hno
      have hp : p < np := by omega
      have tl := l_tellOnly E (d + 2) (show c < 6 by omega) (nI p) (f', t)
      obtain ⟨f2, hf2⟩ : ∃ g : Nat → Nat → Int32, g = setR f' 90 (upd (upd (upd (f' 90) (3 * c) (nI p)) (3 * c + 1) (-1)) (3 * c + 2) (-1)) := ⟨_, rfl⟩
      rw [show ((f', t) : zS).1 = f' from rfl, show ((f', t) : zS).2 = t from rfl, ← hf2] at tl
      have r2 : ∀ a, a ≠ 90 → f2 a = f' a := fun a ha => by rw [hf2, setR_n ha]
      have hD2 : LD f2 nc np ns r W := LD_c (r2 78 (by decide)) (r2 87 (by decide)) (by rw [r2 76 (by decide)]) hD'
      have e90 : ∀ x, x < 3 * nc → f2 90 x = up3 W c (nI p) (-1) (-1) x := fun x hx => by
        rw [hf2, setR_s]
        show up3 (f' 90) c (nI p) (-1) (-1) x = _
        by_cases e : 3 * c ≤ x ∧ x < 3 * c + 3
        · obtain ⟨u0, u1, u2⟩ := up3_0 (f' 90) c (nI p) (-1) (-1)
          obtain ⟨v0, v1, v2⟩ := up3_0 W c (nI p) (-1) (-1)
          obtain e | e | e : x = 3 * c ∨ x = 3 * c + 1 ∨ x = 3 * c + 2 := by omega
          · rw [e, u0, v0]
          · rw [e, u1, v1]
          · rw [e, u2, v2]
        · rw [up3_n e, up3_n e]
          exact h90' x hx e
      have hor : ∀ x, x < 3 * nc → orN (up3 W c (nI p) (-1) (-1) x) np := fun x hx => by
        by_cases e : 3 * c ≤ x ∧ x < 3 * c + 3
        · obtain ⟨v0, v1, v2⟩ := up3_0 W c (nI p) (-1) (-1)
          obtain e | e | e : x = 3 * c ∨ x = 3 * c + 1 ∨ x = 3 * c + 2 := by omega
          · rw [e, v0]
            exact Or.inr ⟨p, hp, rfl⟩
          · rw [e, v1]
            exact Or.inl rfl
          · rw [e, v2]
            exact Or.inl rfl
        · rw [up3_n e]
          exact hW x hx
      obtain ⟨f3, er, hD3, r3, got⟩ := l_run2 E d hnc hnp (t := t) hD2 (fun x hx => by rw [e90 x hx]; exact hor x hx)
      have gc : f3 77 c = oZ (up3 W c (nI p) (-1) (-1)) nc r c := by rw [got c (by omega)]; exact oZ_c hnc e90 (by omega)
      have lk := l_rank E (d + 1) hnc hnp hns (t := t) hD3 hc (g := oZ (up3 W c (nI p) (-1) (-1)) nc r c) (ll_or hnc hor hc)
      have fr3 : ∀ a, a ≠ 76 → a ≠ 77 → a ≠ 90 → f3 a = f a := fun a h1 h2 h3 => by rw [r3 a h1 h2, r2 a h3, hf' a h1 h2 h3]
      by_cases q : rkW W c (oZ (up3 W c (nI p) (-1) (-1)) nc r c) < rk
      · have qq : Q (some (.int 1)) (HP (f3, t)) := by
          rw [← hQ]
          exact ⟨(f3, t), rfl, rfl, hD3, fr3, true, rfl, ⟨fun _ => ⟨p, hp, q⟩, fun _ => rfl⟩⟩
        rw [e_X3_gainsByAnother_2]
        simp only [↓e_X3_gainsByAnother_7, ↓e_X3_gainsByAnother_10, ↓e_X3_gainsByAnother_13, ↓e_X3_gainsByAnother_19, ↓e_X3_gainsByAnother_23, ↓e_X3_gainsByAnother_27, ↓e_X3_gainsByAnother_32, ↓e_X3_gainsByAnother_34, ↓e_X3_gainsByAnother_37, ↓e_X3_gainsByAnother_41, ↓e_X3_gainsByAnother_43, ↓e_X3_gainsByAnother_49, g3 o3_76, g6 isS_78.1, v3 o3_76, v6 isS_78.1, Nat.reduceAdd, hD'.2.1, tl, er, gc, lk, q, ri_k i77 (show c < 6 by omega) (by decide), i01, zps_s, zps_n, nI_lt_iff (show p < 2 ^ 31 by omega) n1, hp, or_true, true_and, zk_i, zk_r, zk_n, ↓reduceIte]
        exact qq
      · have nx := ihk (p + 1) f3 (by omega) hD3 fr3 (fun x hx e => by rw [r3 90 (by decide) (by decide), e90 x hx, up3_n e]) (fun p' hp' => by
          by_cases e : p' = p
          · subst e
            exact q
          · exact hno p' (by omega))
        rw [e_X3_gainsByAnother_2]
        simp only [↓e_X3_gainsByAnother_7, ↓e_X3_gainsByAnother_10, ↓e_X3_gainsByAnother_13, ↓e_X3_gainsByAnother_19, ↓e_X3_gainsByAnother_23, ↓e_X3_gainsByAnother_27, ↓e_X3_gainsByAnother_32, ↓e_X3_gainsByAnother_34, ↓e_X3_gainsByAnother_37, ↓e_X3_gainsByAnother_41, ↓e_X3_gainsByAnother_43, ↓e_X3_gainsByAnother_49, g3 o3_76, g6 isS_78.1, v3 o3_76, v6 isS_78.1, Nat.reduceAdd, hD'.2.1, tl, er, gc, lk, q, ri_k i77 (show c < 6 by omega) (by decide), zps_s, zps_n, nI_lt_iff (show p < 2 ^ 31 by omega) n1, hp, nI_1, zk_i, zk_r, zk_n, ↓reduceIte]
        exact nx
  have start := loop np 0 f (by omega) hD (fun _ _ _ _ => rfl) h90 (fun p' hp' => by omega)
  rw [nI_0] at start
  simp only [↓c_X3_gainsByAnother, ↓e_X3_gainsByAnother_0, ↓e_X3_gainsByAnother_7, ↓e_X3_gainsByAnother_10, ↓e_X3_gainsByAnother_13, ↓e_X3_gainsByAnother_19, ↓e_X3_gainsByAnother_23, ↓e_X3_gainsByAnother_27, ↓e_X3_gainsByAnother_32, ↓e_X3_gainsByAnother_34, ↓e_X3_gainsByAnother_37, ↓e_X3_gainsByAnother_41, ↓e_X3_gainsByAnother_43, ↓e_X3_gainsByAnother_49, zk_i, zk_r, zk_n]
  exact start
theorem x_lg (E : zE) (d : Nat) (hnc : nc ≤ 6) (hnp : np ≤ 6) (hns : ns ≤ 7) (hW : ∀ x, x < 3 * nc → orN (W x) np) {f : Nat → Nat → Int32} {t : (Nat → Nat → Int64) × Nat} (hD : LD f nc np ns r W) : Hr E (d + 4) 31 [.ref 76] (f, t) (fun v z' => z'.2 = t ∧ (∀ a, a ≠ 76 → a ≠ 77 → a ≠ 90 → z'.1 a = f a) ∧ ((∃ c, c < nc ∧ v = some (.int (nI c)) ∧ gnC W nc np r c ∧ ∀ c', c' < c → ¬ gnC W nc np r c') ∨ (v = some (.int (-1)) ∧ ∀ c, c < nc → ¬ gnC W nc np r c))) := by
  have n1 : nc < 2 ^ 31 := by omega
  unfold Hr
  generalize hQ : (fun (v : Option Value) (h : zH) => ∃ z' : zS, h = HP z' ∧ (z'.2 = t ∧ (∀ a, a ≠ 76 → a ≠ 77 → a ≠ 90 → z'.1 a = f a) ∧ ((∃ c, c < nc ∧ v = some (.int (nI c)) ∧ gnC W nc np r c ∧ ∀ c', c' < c → ¬ gnC W nc np r c') ∨ (v = some (.int (-1)) ∧ ∀ c, c < nc → ¬ gnC W nc np r c)))) = Q
  have loop : ∀ k c (f' : Nat → Nat → Int32) (x : Option Value), c + k = nc → LD f' nc np ns r W → (∀ a, a ≠ 76 → a ≠ 77 → a ≠ 90 → f' a = f a) → (∀ c', c' < c → ¬ gnC W nc np r c') → Ev E (d + 4) zm_X3_leastGainer 2 [some (.ref 76), some (.int (nI c)), x] [] (HP (f', t)) Q := by
    intro k
    induction k with
    | zero =>
      intro c f' x hck hD' hf' hno
      have e : c = nc := by omega
      subst e
      have q : Q (some (.int (-1))) (HP (f', t)) := by
        rw [← hQ]
        exact ⟨(f', t), rfl, rfl, hf', Or.inr ⟨rfl, hno⟩⟩
      rw [e_X3_leastGainer_2]
      simp only [↓e_X3_leastGainer_7, ↓e_X3_leastGainer_10, ↓e_X3_leastGainer_13, ↓e_X3_leastGainer_17, ↓e_X3_leastGainer_21, ↓e_X3_leastGainer_25, ↓e_X3_leastGainer_30, ↓e_X3_leastGainer_32, ↓e_X3_leastGainer_35, ↓e_X3_leastGainer_40, ↓e_X3_leastGainer_46, ↓e_X3_leastGainer_49, ↓e_X3_leastGainer_51, ↓e_X3_leastGainer_57, g3 o3_76, g6 isS_78.1, Nat.reduceAdd, hD'.1, nI_lt_iff n1 n1, Nat.lt_irrefl, zk_i, zk_r, zk_n, ↓reduceIte]
      exact q
    | succ k ihk =>
      intro c f' x hck hD' hf' hno
      have hc : c < nc := by omega
      have tt := l_tellTruth E (d + 3) f' t
      obtain ⟨f2, hf2⟩ : ∃ g : Nat → Nat → Int32, g = itr (cpF [(90, 87)]) 18 f' := ⟨_, rfl⟩
      rw [← hf2] at tt
      have r2 : ∀ a, a ≠ 90 → f2 a = f' a := fun a ha => by rw [hf2, cp_fr (by simp; omega)]
      have hD2 : LD f2 nc np ns r W := LD_c (r2 78 (by decide)) (r2 87 (by decide)) (by rw [r2 76 (by decide)]) hD'
      have e90 : ∀ x, x < 18 → f2 90 x = W x := fun x hx => by
        rw [hf2, cp_at (a := 90) (b := 87) (by simp) (by simp) _ (by simp) hx]
        exact hD'.2.2.2.2 x hx
      obtain ⟨f3, er, hD3, r3, got⟩ := l_run2 E (d + 1) hnc hnp (t := t) hD2 (fun x hx => by rw [e90 x (by omega)]; exact hW x hx)
      have gc : f3 77 c = oZ W nc r c := by rw [got c (by omega)]; exact oZ_c hnc (fun x hx => e90 x (by omega)) (by omega)
      have lk := l_rank E (d + 2) hnc hnp hns (t := t) hD3 hc (g := oZ W nc r c) (ll_or hnc hW hc)
      have fr3 : ∀ a, a ≠ 76 → a ≠ 77 → a ≠ 90 → f3 a = f a := fun a h1 h2 h3 => by rw [r3 a h1 h2, r2 a h3, hf' a h1 h2 h3]
      obtain ⟨v, z4, ⟨ht4, hD4, r4, b, hv, hb⟩, e4⟩ := Hr_use (x_gba E d hnc hnp hns hW hc (rkW W c (oZ W nc r c)) (t := t) hD3 (fun x hx _ => by rw [r3 90 (by decide) (by decide)]; exact e90 x (by omega)))
      subst hv
      have fr4 : ∀ a, a ≠ 76 → a ≠ 77 → a ≠ 90 → z4.1 a = f a := fun a h1 h2 h3 => by rw [r4 a h1 h2 h3, fr3 a h1 h2 h3]
      have up : ∀ c', c' < c + 1 → (¬ gnC W nc np r c) → ¬ gnC W nc np r c' := fun c' hc' hn => by
        by_cases e : c' = c
        · subst e
          exact hn
        · exact hno c' (by omega)
      by_cases q : 0 < rkW W c (oZ W nc r c)
      · cases b with
        | true =>
          have qq : Q (some (.int (nI c))) (HP z4) := by
            rw [← hQ]
            exact ⟨z4, rfl, ht4, fr4, Or.inl ⟨c, hc, rfl, hb.mp rfl, hno⟩⟩
          rw [e_X3_leastGainer_2]
          simp only [↓e_X3_leastGainer_7, ↓e_X3_leastGainer_10, ↓e_X3_leastGainer_13, ↓e_X3_leastGainer_17, ↓e_X3_leastGainer_21, ↓e_X3_leastGainer_25, ↓e_X3_leastGainer_30, ↓e_X3_leastGainer_32, ↓e_X3_leastGainer_35, ↓e_X3_leastGainer_40, ↓e_X3_leastGainer_46, ↓e_X3_leastGainer_49, ↓e_X3_leastGainer_51, ↓e_X3_leastGainer_57, g3 o3_76, g6 isS_78.1, v3 o3_76, v6 isS_78.1, Nat.reduceAdd, hD'.1, tt, er, gc, lk, q, e4, bI_t, i01, ri_k i77 (show c < 6 by omega) (by decide), zps_s, zps_n, nI_lt_iff (show c < 2 ^ 31 by omega) n1, hc, zk_i, zk_r, zk_n, ↓reduceIte]
          exact qq
        | false =>
          have nog : ¬ gnC W nc np r c := fun g => by
            have := hb.mpr g
            cases this
          have nx := fun x => ihk (c + 1) z4.1 x (by omega) hD4 fr4 (fun c' hc' => up c' hc' nog)
          rw [← ht4] at nx
          rw [e_X3_leastGainer_2]
          simp only [↓e_X3_leastGainer_7, ↓e_X3_leastGainer_10, ↓e_X3_leastGainer_13, ↓e_X3_leastGainer_17, ↓e_X3_leastGainer_21, ↓e_X3_leastGainer_25, ↓e_X3_leastGainer_30, ↓e_X3_leastGainer_32, ↓e_X3_leastGainer_35, ↓e_X3_leastGainer_40, ↓e_X3_leastGainer_46, ↓e_X3_leastGainer_49, ↓e_X3_leastGainer_51, ↓e_X3_leastGainer_57, g3 o3_76, g6 isS_78.1, v3 o3_76, v6 isS_78.1, Nat.reduceAdd, hD'.1, tt, er, gc, lk, q, e4, bI_f, ri_k i77 (show c < 6 by omega) (by decide), zps_s, zps_n, nI_lt_iff (show c < 2 ^ 31 by omega) n1, hc, nI_1, zk_i, zk_r, zk_n, ↓reduceIte]
          exact nx _
      · have nog : ¬ gnC W nc np r c := fun ⟨p, hp, g⟩ => by
          obtain ⟨k1, hk1, e1⟩ := rkW_le W c (oZ W nc r c)
          obtain ⟨k2, hk2, e2⟩ := rkW_le W c (oZ (up3 W c (nI p) (-1) (-1)) nc r c)
          rw [e1, e2, nI_lt_iff (by omega) (by omega)] at g
          rw [e1] at q
          exact q (nI_lt (a := 0) (by omega) (by omega))
        have nx := fun x => ihk (c + 1) f3 x (by omega) hD3 fr3 (fun c' hc' => up c' hc' nog)
        rw [e_X3_leastGainer_2]
        simp only [↓e_X3_leastGainer_7, ↓e_X3_leastGainer_10, ↓e_X3_leastGainer_13, ↓e_X3_leastGainer_17, ↓e_X3_leastGainer_21, ↓e_X3_leastGainer_25, ↓e_X3_leastGainer_30, ↓e_X3_leastGainer_32, ↓e_X3_leastGainer_35, ↓e_X3_leastGainer_40, ↓e_X3_leastGainer_46, ↓e_X3_leastGainer_49, ↓e_X3_leastGainer_51, ↓e_X3_leastGainer_57, g3 o3_76, g6 isS_78.1, v3 o3_76, v6 isS_78.1, Nat.reduceAdd, hD'.1, tt, er, gc, lk, q, ri_k i77 (show c < 6 by omega) (by decide), zps_s, zps_n, nI_lt_iff (show c < 2 ^ 31 by omega) n1, hc, nI_1, zk_i, zk_r, zk_n, ↓reduceIte]
        exact nx _
  have start := loop nc 0 f none (by omega) hD (fun _ _ _ _ => rfl) (fun c' hc' => by omega)
  rw [nI_0] at start
  simp only [↓c_X3_leastGainer, ↓e_X3_leastGainer_0, ↓e_X3_leastGainer_7, ↓e_X3_leastGainer_10, ↓e_X3_leastGainer_13, ↓e_X3_leastGainer_17, ↓e_X3_leastGainer_21, ↓e_X3_leastGainer_25, ↓e_X3_leastGainer_30, ↓e_X3_leastGainer_32, ↓e_X3_leastGainer_35, ↓e_X3_leastGainer_40, ↓e_X3_leastGainer_46, ↓e_X3_leastGainer_49, ↓e_X3_leastGainer_51, ↓e_X3_leastGainer_57, zk_i, zk_r, zk_n]
  exact start
end GA
