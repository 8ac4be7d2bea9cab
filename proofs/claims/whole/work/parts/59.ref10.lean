/-! the reference: lays -/
theorem nI_div {a b : Nat} (ha : a < 2 ^ 31) (hb : b < 2 ^ 31) : nI a / nI b = nI (a / b) := by
  have h : a / b < 2 ^ 31 := Nat.lt_of_le_of_lt (Nat.div_le_self a b) ha
  rw [← Int32.toInt_inj, Int32.toInt_div, nI_toInt ha, nI_toInt hb, nI_toInt h, ← Int.ofNat_tdiv]
  generalize a / b = q at h ⊢
  exact Int.bmod_eq_of_le (by omega) (by omega)
theorem nI_mod {a b : Nat} (ha : a < 2 ^ 31) (hb : b < 2 ^ 31) : nI a - nI a / nI b * nI b = nI (a % b) := by
  rw [nI_div ha hb, nI_mul, xI_sub (Nat.div_mul_le_self a b)]
  congr 1
  have := Nat.div_add_mod a b
  rw [Nat.mul_comm] at this
  omega
/-- the row that k spells, from its last place -/
def lyG (m np : Nat) (j : Nat) (s : Nat × (Nat → Int32)) : Nat × (Nat → Int32) := (s.1 / m, upd s.2 (np - 1 - j) (nI (s.1 % m)))
def lyF (z : zS) (g : Nat → Int32) (a b : Nat) (r : Bool) : Bool := r && (!decide (g a = g b) || decide (z.1 134 a >>> (nI b &&& 31) &&& 1 = 0))
def lyB (z : zS) (g : Nat → Int32) (np : Nat) : Bool := itr (fun a r => itr (lyF z g a) a r) np true
theorem lyG_lt (m np k : Nat) (g : Nat → Int32) : ∀ j, (itr (lyG m np) j (k, g)).1 ≤ k
  | 0 => Nat.le_refl k
  | j + 1 => Nat.le_trans (Nat.div_le_self _ m) (lyG_lt m np k g j)
theorem nIm_lt {q : Nat} (h : q < 2 ^ 31) : (nI q - 1 < 0) = (q = 0) := by
  cases q with
  | zero => decide
  | succ q =>
    rw [nI_pred]
    simp only [nI_neg (show q < 2 ^ 31 by omega), Nat.add_one_ne_zero]
theorem m_lays (E : zE) (d : Nat) {np k m : Nat} (hnp : np ≤ 6) (hk : k < 2 ^ 31) (hm : m < 2 ^ 31) (hm0 : 0 < m ∨ np = 0) {z : zS} (hp : z.1 130 104 = nI np) (K : Option Value → zH → Prop) : Cl E d 160 [.ref 129, .int (nI k), .int (nI m)] (HP z) K = K (some (.int (bI (lyB z (itr (lyG m np) np (k, z.1 135)).2 np)))) (HP (setR z.1 135 (itr (lyG m np) np (k, z.1 135)).2, z.2)) := by
  have hn' : np < 2 ^ 31 := by omega
  have h1 : (130 : Nat) ≠ 135 := by decide
  have h2 : (134 : Nat) ≠ 135 := by decide
  have loop1 := itr_eq (fun j (s : Nat × (Nat → Int32)) => Ev E d zm_X9_lays 13 [some (.ref 129), some (.int (nI k)), some (.int (nI m)), some (.int (nI s.1)), some (.int (nI (np - j) - 1)), none, none] [] (HP (setR z.1 135 s.2, z.2)) K) (lyG m np) (k, z.1 135) np (fun j hj => by
    have hle := lyG_lt m np k (z.1 135) j
    generalize itr _ j _ = s at hle ⊢
    obtain ⟨q, hq⟩ : ∃ q, np - j = q + 1 := ⟨np - j - 1, by omega⟩
    have e1 : np - (j + 1) = q := by omega
    have e2 : np - 1 - j = q := by omega
    have e3 : nI q + -1 = nI q - 1 := by rw [Int32.sub_eq_add_neg]
    have m0 : (nI m = 0) = False := by
      refine propext ⟨fun h => ?_, False.elim⟩
      rw [← nI_0] at h
      have := (nI_eq hm (by decide)).mp h
      omega
    have e4 : nI s.1 - nI (s.1 / m) * nI m = nI (s.1 % m) := by
      rw [← nI_div (show s.1 < 2 ^ 31 by omega) hm, nI_mod (show s.1 < 2 ^ 31 by omega) hm]
    rw [e_X9_lays_13]
    simp only [nIm_lt (show np - j < 2 ^ 31 by omega), show ¬ np - j = 0 from by omega, ↓reduceIte]
    simp only [↓e_X9_lays_6, ↓e_X9_lays_9, ↓e_X9_lays_18, ↓e_X9_lays_22, ↓e_X9_lays_27, ↓e_X9_lays_28, ↓e_X9_lays_31, ↓e_X9_lays_38, ↓e_X9_lays_50, ↓e_X9_lays_53, ↓e_X9_lays_56, ↓e_X9_lays_66, ↓e_X9_lays_71, ↓e_X9_lays_75, ↓e_X9_lays_78, ↓e_X9_lays_82, ↓e_X9_lays_85, ↓e_X9_lays_88, ↓e_X9_lays_92, ↓e_X9_lays_95, ↓e_X9_lays_103, ↓e_X9_lays_107, ↓e_X9_lays_108, ↓e_X9_lays_116, ↓e_X9_lays_122, g9 o9_129, Nat.reduceAdd, hq, nI_pred, e1, e3, m0, not_false_eq_true, true_and, nI_div (show s.1 < 2 ^ 31 by omega) hm, e4, wi_k i135 (show q < 6 by omega) (by decide), setR_s, setR_2, set2_R, zk_i, zk_r, zk_n, lyG, e2])
  have inner : ∀ (G : Nat → Int32) (l : Int32) (a : Nat) (r : Bool), a < np → Ev E d zm_X9_lays 59 [some (.ref 129), some (.int (nI k)), some (.int (nI m)), some (.int l), some (.int (bI r)), some (.int (nI a)), some (.int 0)] [] (HP (setR z.1 135 G, z.2)) K = Ev E d zm_X9_lays 44 [some (.ref 129), some (.int (nI k)), some (.int (nI m)), some (.int l), some (.int (bI (itr (lyF z G a) a r))), some (.int (nI (a + 1))), some (.int (nI a))] [] (HP (setR z.1 135 G, z.2)) K := by
    intro G l a r ha
    have lp := itr_eq (fun b r => Ev E d zm_X9_lays 59 [some (.ref 129), some (.int (nI k)), some (.int (nI m)), some (.int l), some (.int (bI r)), some (.int (nI a)), some (.int (nI b))] [] (HP (setR z.1 135 G, z.2)) K) (lyF z G a) r a (fun b hb => by
      generalize itr _ b _ = r
      rw [e_X9_lays_59]
      simp only [↓e_X9_lays_6, ↓e_X9_lays_9, ↓e_X9_lays_18, ↓e_X9_lays_22, ↓e_X9_lays_27, ↓e_X9_lays_28, ↓e_X9_lays_31, ↓e_X9_lays_38, ↓e_X9_lays_50, ↓e_X9_lays_53, ↓e_X9_lays_56, ↓e_X9_lays_66, ↓e_X9_lays_71, ↓e_X9_lays_75, ↓e_X9_lays_78, ↓e_X9_lays_82, ↓e_X9_lays_85, ↓e_X9_lays_88, ↓e_X9_lays_92, ↓e_X9_lays_95, ↓e_X9_lays_103, ↓e_X9_lays_107, ↓e_X9_lays_108, ↓e_X9_lays_116, ↓e_X9_lays_122, g9 o9_129, Nat.reduceAdd, ri_k i135 (show a < 6 by omega) (by decide), ri_k i135 (show b < 6 by omega) (by decide), ri_k i134 (show a < 6 by omega) (by decide), setR_s, setR_n h2, bI_0, zk_i, zk_r, zk_n, nI_lt_iff (show b < 2 ^ 31 by omega) (show a < 2 ^ 31 by omega), hb, ↓reduceIte, nI_1, lyF]
      cases r
      · simp [bI]
      · by_cases q1 : G a = G b
        · by_cases q2 : z.1 134 a >>> (nI b &&& 31) &&& 1 = 0 <;> simp [q1, q2, bI]
        · simp [q1, bI])
    rw [nI_0] at lp
    rw [lp, e_X9_lays_59]
    simp only [↓e_X9_lays_6, ↓e_X9_lays_9, ↓e_X9_lays_18, ↓e_X9_lays_22, ↓e_X9_lays_27, ↓e_X9_lays_28, ↓e_X9_lays_31, ↓e_X9_lays_38, ↓e_X9_lays_50, ↓e_X9_lays_53, ↓e_X9_lays_56, ↓e_X9_lays_66, ↓e_X9_lays_71, ↓e_X9_lays_75, ↓e_X9_lays_78, ↓e_X9_lays_82, ↓e_X9_lays_85, ↓e_X9_lays_88, ↓e_X9_lays_92, ↓e_X9_lays_95, ↓e_X9_lays_103, ↓e_X9_lays_107, ↓e_X9_lays_108, ↓e_X9_lays_116, ↓e_X9_lays_122, nI_lt_iff (show a < 2 ^ 31 by omega) (show a < 2 ^ 31 by omega), Nat.lt_irrefl, ↓reduceIte, zk_i, zk_r, zk_n, nI_1]
  have outer : ∀ (G : Nat → Int32) (l : Int32), Ev E d zm_X9_lays 44 [some (.ref 129), some (.int (nI k)), some (.int (nI m)), some (.int l), some (.int 1), some (.int 0), none] [] (HP (setR z.1 135 G, z.2)) K = K (some (.int (bI (lyB z G np)))) (HP (setR z.1 135 G, z.2)) := fun G l => by
    have lp := itr_junk (τ := Option Value) (fun a r x => Ev E d zm_X9_lays 44 [some (.ref 129), some (.int (nI k)), some (.int (nI m)), some (.int l), some (.int (bI r)), some (.int (nI a)), x] [] (HP (setR z.1 135 G, z.2)) K) (fun a r => itr (lyF z G a) a r) true (R := K (some (.int (bI (lyB z G np)))) (HP (setR z.1 135 G, z.2))) np (fun a x ha => by
      generalize itr _ a _ = r
      refine ⟨some (.int (nI a)), ?_⟩
      rw [e_X9_lays_44]
      simp only [↓e_X9_lays_6, ↓e_X9_lays_9, ↓e_X9_lays_18, ↓e_X9_lays_22, ↓e_X9_lays_27, ↓e_X9_lays_28, ↓e_X9_lays_31, ↓e_X9_lays_38, ↓e_X9_lays_50, ↓e_X9_lays_53, ↓e_X9_lays_56, ↓e_X9_lays_66, ↓e_X9_lays_71, ↓e_X9_lays_75, ↓e_X9_lays_78, ↓e_X9_lays_82, ↓e_X9_lays_85, ↓e_X9_lays_88, ↓e_X9_lays_92, ↓e_X9_lays_95, ↓e_X9_lays_103, ↓e_X9_lays_107, ↓e_X9_lays_108, ↓e_X9_lays_116, ↓e_X9_lays_122, g9 o9_129, Nat.reduceAdd, stL, setR_n h1, hp, zk_i, zk_r, zk_n, nI_lt_iff (show a < 2 ^ 31 by omega) hn', ha, ↓reduceIte]
      exact inner G l a r ha) (fun x => by
      rw [e_X9_lays_44]
      simp only [↓e_X9_lays_6, ↓e_X9_lays_9, ↓e_X9_lays_18, ↓e_X9_lays_22, ↓e_X9_lays_27, ↓e_X9_lays_28, ↓e_X9_lays_31, ↓e_X9_lays_38, ↓e_X9_lays_50, ↓e_X9_lays_53, ↓e_X9_lays_56, ↓e_X9_lays_66, ↓e_X9_lays_71, ↓e_X9_lays_75, ↓e_X9_lays_78, ↓e_X9_lays_82, ↓e_X9_lays_85, ↓e_X9_lays_88, ↓e_X9_lays_92, ↓e_X9_lays_95, ↓e_X9_lays_103, ↓e_X9_lays_107, ↓e_X9_lays_108, ↓e_X9_lays_116, ↓e_X9_lays_122, g9 o9_129, Nat.reduceAdd, stL, setR_n h1, hp, nI_lt_iff hn' hn', Nat.lt_irrefl, ↓reduceIte, bI_01, true_and, lyB]) none
    rw [nI_0, bI_t] at lp
    exact lp
  simp only [↓c_X9_lays, ↓e_X9_lays_0, ↓e_X9_lays_6, ↓e_X9_lays_9, ↓e_X9_lays_18, ↓e_X9_lays_22, ↓e_X9_lays_27, ↓e_X9_lays_28, ↓e_X9_lays_31, ↓e_X9_lays_38, ↓e_X9_lays_50, ↓e_X9_lays_53, ↓e_X9_lays_56, ↓e_X9_lays_66, ↓e_X9_lays_71, ↓e_X9_lays_75, ↓e_X9_lays_78, ↓e_X9_lays_82, ↓e_X9_lays_85, ↓e_X9_lays_88, ↓e_X9_lays_92, ↓e_X9_lays_95, ↓e_X9_lays_103, ↓e_X9_lays_107, ↓e_X9_lays_108, ↓e_X9_lays_116, ↓e_X9_lays_122, g9 o9_129, Nat.reduceAdd, stL, hp, zk_i, zk_r, zk_n]
  simp only [setR_id, Nat.sub_zero] at loop1
  rw [loop1, e_X9_lays_13]
  simp only [Nat.sub_self, nIm_lt (show 0 < 2 ^ 31 by decide), ↓reduceIte]
  simp only [↓e_X9_lays_6, ↓e_X9_lays_9, ↓e_X9_lays_18, ↓e_X9_lays_22, ↓e_X9_lays_27, ↓e_X9_lays_28, ↓e_X9_lays_31, ↓e_X9_lays_38, ↓e_X9_lays_50, ↓e_X9_lays_53, ↓e_X9_lays_56, ↓e_X9_lays_66, ↓e_X9_lays_71, ↓e_X9_lays_75, ↓e_X9_lays_78, ↓e_X9_lays_82, ↓e_X9_lays_85, ↓e_X9_lays_88, ↓e_X9_lays_92, ↓e_X9_lays_95, ↓e_X9_lays_103, ↓e_X9_lays_107, ↓e_X9_lays_108, ↓e_X9_lays_116, ↓e_X9_lays_122, zk_i, zk_r, zk_n, outer]
