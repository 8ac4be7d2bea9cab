/-! CastSearch: mostPoints, search, prepare -/
def mxv (n : Nat) (aw : Int32) (pts : Nat → Nat → Int) (p : Nat) : Int := itr (fun c m => if nI c = aw then m else if m < pts p c then pts p c else m) n (-1000)
theorem mxv_bd {n : Nat} {aw : Int32} {pts : Nat → Nat → Int} {p : Nat} (hb : ∀ c, c < n → -1000 ≤ pts p c ∧ pts p c ≤ 1000) : (-1000 ≤ mxv n aw pts p ∧ mxv n aw pts p ≤ 1000) ∧ ∀ c, c < n → nI c ≠ aw → pts p c ≤ mxv n aw pts p := by
  induction n with
  | zero => exact ⟨by unfold mxv; rw [itr_z]; omega, fun c hc => by omega⟩
  | succ n ih =>
    obtain ⟨i1, i2⟩ := ih (fun c hc => hb c (by omega))
    have e : mxv (n + 1) aw pts p = if nI n = aw then mxv n aw pts p else if mxv n aw pts p < pts p n then pts p n else mxv n aw pts p := rfl
    have hn := hb n (by omega)
    have sp : ∀ c, c < n + 1 → c < n ∨ c = n := fun c hc => by omega
    by_cases h1 : nI n = aw
    · rw [if_pos h1] at e
      rw [e]
      refine ⟨i1, fun c hc hne => ?_⟩
      rcases sp c hc with q | rfl
      · exact i2 c q hne
      · exact absurd h1 hne
    · rw [if_neg h1] at e
      by_cases h2 : mxv n aw pts p < pts p n
      · rw [if_pos h2] at e
        rw [e]
        refine ⟨hn, fun c hc hne => ?_⟩
        rcases sp c hc with q | rfl
        · have := i2 c q hne
          omega
        · omega
      · rw [if_neg h2] at e
        rw [e]
        refine ⟨i1, fun c hc hne => ?_⟩
        rcases sp c hc with q | rfl
        · exact i2 c q hne
        · omega
/-- the state ahead of a search -/
def D0 (f : Nat → Nat → Int32) (n np : Nat) (cm : Nat → Int32) (aw : Int32) (ea : Nat) (pts : Nat → Nat → Int) : Prop := f 38 3 = nI np ∧ f 38 4 = nI n ∧ f 38 5 = aw ∧ f 38 6 = nI ea ∧ (∀ p, p < np → ∀ c, c < n → f 40 (6 * p + c) = iI (pts p c)) ∧ (∀ p, p < np → f 42 p = cm p) ∧ ∀ c, c < 6 → f 44 c = 0
theorem x_mostPoints (E : zE) (d : Nat) {f : Nat → Nat → Int32} {t : (Nat → Nat → Int64) × Nat} {n p : Nat} {aw : Int32} {pts : Nat → Nat → Int} (hn : n ≤ 6) (hp : p < 6) (h4 : f 38 4 = nI n) (h5 : f 38 5 = aw) (hb : ∀ c, c < n → -1000 ≤ pts p c ∧ pts p c ≤ 1000) (h40 : ∀ c, c < n → f 40 (6 * p + c) = iI (pts p c)) (K : Option Value → zH → Prop) : Cl E (d + 1) 7 [.ref 38, .int (nI p)] (HP (f, t)) K = K (some (.int (iI (mxv n aw pts p)))) (HP (f, t)) := by
  have n1 : n < 2 ^ 31 := by omega
  have loop := itr_eq (fun i (m : Int) => Ev E (d + 1) zm_X0_mostPoints 6 [some (.ref 38), some (.int (nI p)), some (.int (iI m)), some (.int (nI i))] [] (HP (f, t)) K) (fun c m => if nI c = aw then m else if m < pts p c then pts p c else m) (-1000) n (fun i hi => by
    have mb : -1000 ≤ mxv i aw pts p ∧ mxv i aw pts p ≤ 1000 := (mxv_bd (fun c hc => hb c (by omega))).1
    unfold mxv at mb
    generalize itr _ i _ = m at mb
    have e6 : nI p * 6 + nI i = nI (6 * p + i) := by
      have : nI p * 6 = nI (p * 6) := nI_mul p 6
      rw [this, nI_add, Nat.mul_comm]
    have hbi := hb i hi
    have el : (iI m < iI (pts p i)) = (m < pts p i) := iI_lt (by omega) (by omega) (by omega) (by omega)
    by_cases q : nI i = aw
    · have q' : (nI i = aw) = True := eq_true q
      rw [e_X0_mostPoints_6]
      simp only [↓e_X0_mostPoints_11, ↓e_X0_mostPoints_14, ↓e_X0_mostPoints_19, ↓e_X0_mostPoints_22, ↓e_X0_mostPoints_27, ↓e_X0_mostPoints_34, ↓e_X0_mostPoints_38, ↓e_X0_mostPoints_44, g0 o0_38, Nat.reduceAdd, h4, h5, q', zk_i, zk_r, zk_n, nI_lt_iff (show i < 2 ^ 31 by omega) n1, hi, ↓reduceIte, nI_1]
    · rw [e_X0_mostPoints_6]
      simp only [↓e_X0_mostPoints_11, ↓e_X0_mostPoints_14, ↓e_X0_mostPoints_19, ↓e_X0_mostPoints_22, ↓e_X0_mostPoints_27, ↓e_X0_mostPoints_34, ↓e_X0_mostPoints_38, ↓e_X0_mostPoints_44, g0 o0_38, Nat.reduceAdd, h4, h5, q, e6, ri_k i40 (show 6 * p + i < 36 by omega) (by decide), h40 i hi, el, zk_i, zk_r, zk_n, nI_lt_iff (show i < 2 ^ 31 by omega) n1, hi, ↓reduceIte, nI_1]
      by_cases q2 : m < pts p i <;> simp only [q2, ↓reduceIte])
  rw [nI_0] at loop
  have e1 : iI (-1000) = -1000 := by decide
  rw [e1] at loop
  simp only [↓c_X0_mostPoints, ↓e_X0_mostPoints_0, ↓e_X0_mostPoints_11, ↓e_X0_mostPoints_14, ↓e_X0_mostPoints_19, ↓e_X0_mostPoints_22, ↓e_X0_mostPoints_27, ↓e_X0_mostPoints_34, ↓e_X0_mostPoints_38, ↓e_X0_mostPoints_44, zk_i, zk_r, zk_n]
  rw [loop, e_X0_mostPoints_6]
  simp only [↓e_X0_mostPoints_11, ↓e_X0_mostPoints_14, ↓e_X0_mostPoints_19, ↓e_X0_mostPoints_22, ↓e_X0_mostPoints_27, ↓e_X0_mostPoints_34, ↓e_X0_mostPoints_38, ↓e_X0_mostPoints_44, g0 o0_38, Nat.reduceAdd, h4, nI_lt_iff n1 n1, Nat.lt_irrefl, ↓reduceIte]
  rfl
/-- the most that parts from p on can bring -/
def cek (mx : Nat → Int) (np : Nat) : Nat → Int
  | 0 => 0
  | k + 1 => cek mx np k + mx (np - (k + 1))
theorem cek_bd {mx : Nat → Int} {np : Nat} (h : ∀ p, p < np → -1000 ≤ mx p ∧ mx p ≤ 1000) : ∀ k, k ≤ np → -1000 * (k : Int) ≤ cek mx np k ∧ cek mx np k ≤ 1000 * k
  | 0, _ => ⟨by simp [cek], by simp [cek]⟩
  | k + 1, hk => by
    have ih := cek_bd h k (by omega)
    have := h (np - (k + 1)) (by omega)
    show _ ≤ cek mx np k + mx (np - (k + 1)) ∧ cek mx np k + mx (np - (k + 1)) ≤ _
    omega
def ceI (mx : Nat → Int) (np p : Nat) : Int := cek mx np (np - p)
theorem ceI_s {mx : Nat → Int} {np p : Nat} (hp : p < np) : ceI mx np p = ceI mx np (p + 1) + mx p := by
  unfold ceI
  rw [show np - p = (np - (p + 1)) + 1 by omega]
  show cek mx np (np - (p + 1)) + mx (np - (np - (p + 1) + 1)) = _
  rw [show np - (np - (p + 1) + 1) = p by omega]
theorem ceI_n {mx : Nat → Int} {np p : Nat} (hp : np ≤ p) : ceI mx np p = 0 := by
  unfold ceI
  rw [show np - p = 0 by omega]
  rfl
/-- ceilings, from the last part on -/
theorem x_ceil (E : zE) (d : Nat) {n np : Nat} {aw : Int32} {pts : Nat → Nat → Int} (t : (Nat → Nat → Int64) × Nat) (hn : n ≤ 6) (hnp : np ≤ 6) (hb : ∀ p, p < np → ∀ c, c < n → -1000 ≤ pts p c ∧ pts p c ≤ 1000) (Q : Option Value → zH → Prop) : ∀ k (f : Nat → Nat → Int32), k ≤ 6 → f 38 3 = nI np → f 38 4 = nI n → f 38 5 = aw → (∀ p, p < np → ∀ c, c < n → f 40 (6 * p + c) = iI (pts p c)) → (∀ p, k ≤ p → p ≤ 6 → f 41 p = iI (ceI (mxv n aw pts) np p)) → (∀ f' : Nat → Nat → Int32, (∀ r, r ≠ 41 → f' r = f r) → (∀ p, p ≤ 6 → f' 41 p = iI (ceI (mxv n aw pts) np p)) → Ev E (d + 2) zm_X0_search 62 [some (.ref 38), some (.int (-1))] [] (HP (f', t)) Q) → Ev E (d + 2) zm_X0_search 20 [some (.ref 38), some (.int (nI k - 1))] [] (HP (f, t)) Q
  | 0, f, _, _, _, _, _, hce, hQ => by
    have e : nI 0 - 1 = -1 := by decide
    rw [e_X0_search_20]
    simp only [e, ↓reduceIte, show ((-1 : Int32) < 0) = True from by decide]
    exact hQ f (fun _ _ => rfl) (fun p hp => hce p (Nat.zero_le _) hp)
  | k + 1, f, hk, h3, h4, h5, h40, hce, hQ => by
    obtain ⟨f1, hf1⟩ : ∃ g : Nat → Nat → Int32, g = set2 f 41 k (iI (ceI (mxv n aw pts) np k)) := ⟨_, rfl⟩
    have r1 : ∀ r, r ≠ 41 → f1 r = f r := fun r hr => by rw [hf1, set2_a hr]
    have ih := x_ceil E d (aw := aw) t hn hnp hb Q k f1 (by omega) (by rw [r1 38 (by decide)]; exact h3) (by rw [r1 38 (by decide)]; exact h4) (by rw [r1 38 (by decide)]; exact h5) (fun p hp c hc => by rw [r1 40 (by decide)]; exact h40 p hp c hc) (fun p hp hp6 => by
      by_cases e : p = k
      · subst e
        rw [hf1, set2_s]
      · rw [hf1, set2_n (Or.inr e)]
        exact hce p (by omega) hp6) (fun f' a b => hQ f' (fun r hr => by rw [a r hr, r1 r hr]) b)
    have hk1 : f 41 (k + 1) = iI (ceI (mxv n aw pts) np (k + 1)) := hce (k + 1) (Nat.le_refl _) hk
    have e2 : (nI k < nI np) = (k < np) := nI_lt_iff (by omega) (by omega)
    by_cases q : k < np
    · have mp := x_mostPoints E d (f := f) (t := t) (p := k) hn (by omega) h4 h5 (hb k q) (h40 k q)
      rw [e_X0_search_20]
      simp only [↓e_X0_search_5, ↓e_X0_search_10, ↓e_X0_search_14, ↓e_X0_search_18, ↓e_X0_search_24, ↓e_X0_search_28, ↓e_X0_search_33, ↓e_X0_search_37, ↓e_X0_search_42, ↓e_X0_search_45, ↓e_X0_search_50, ↓e_X0_search_53, ↓e_X0_search_54, ↓e_X0_search_56, ↓e_X0_search_62, ↓e_X0_search_69, ↓e_X0_search_73, ↓e_X0_search_77, ↓e_X0_search_80, ↓e_X0_search_81, ↓e_X0_search_84, ↓e_X0_search_88, nI_pred, nI_neg (show k < 2 ^ 31 by omega), g0 o0_38, v0 o0_38, Nat.reduceAdd, nI_1, ri_k i41 (show k + 1 < 7 by omega) (by decide), wi_k i41 (show k < 7 by omega) (by decide), hk1, h3, e2, q, mp, iI_add, ← ceI_s q, ← hf1, zps_s, m1_add, zk_i, zk_r, zk_n, ↓reduceIte]
      exact ih
    · have e0 : iI (ceI (mxv n aw pts) np (k + 1)) + 0 = iI (ceI (mxv n aw pts) np k) := by rw [ceI_n (by omega), ceI_n (by omega), Int32.add_zero]
      rw [e_X0_search_20]
      simp only [↓e_X0_search_5, ↓e_X0_search_10, ↓e_X0_search_14, ↓e_X0_search_18, ↓e_X0_search_24, ↓e_X0_search_28, ↓e_X0_search_33, ↓e_X0_search_37, ↓e_X0_search_42, ↓e_X0_search_45, ↓e_X0_search_50, ↓e_X0_search_53, ↓e_X0_search_54, ↓e_X0_search_56, ↓e_X0_search_62, ↓e_X0_search_69, ↓e_X0_search_73, ↓e_X0_search_77, ↓e_X0_search_80, ↓e_X0_search_81, ↓e_X0_search_84, ↓e_X0_search_88, nI_pred, nI_neg (show k < 2 ^ 31 by omega), g0 o0_38, v0 o0_38, Nat.reduceAdd, nI_1, ri_k i41 (show k + 1 < 7 by omega) (by decide), wi_k i41 (show k < 7 by omega) (by decide), hk1, h3, e2, q, e0, ← hf1, zps_s, m1_add, zk_i, zk_r, zk_n, ↓reduceIte]
      exact ih
