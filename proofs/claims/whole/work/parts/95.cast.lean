/-! CastSearch: castFrom (at 38: bestRow 39, points 40, ceiling 41, clashes 42, row 43, held 44) -/
def Vd (n np : Nat) (cm : Nat → Int32) (aw : Int32) (ea : Nat) (k : Nat) : Prop := (∀ a, a < np → ∀ b, b < a → dg n np k a = dg n np k b → bt (cm a) b = false) ∧ (∀ a, a < np → nI (dg n np k a) ≠ aw) ∧ (ea = 1 → ∀ c, c < n → ∃ p, p < np ∧ dg n np k p = c)
def scd (n np : Nat) (pts : Nat → Nat → Int) (k : Nat) : Int := sm (fun p => pts p (dg n np k p)) np
def SR (f : Nat → Nat → Int32) (n np : Nat) (pts : Nat → Nat → Int) (o : Option Nat) : Prop := match o with
  | none => f 38 0 = 0
  | some j => f 38 0 = 1 ∧ f 38 1 = iI (scd n np pts j) ∧ ∀ p, p < np → f 39 p = nI (dg n np j p)
def Dt (f : Nat → Nat → Int32) (n np : Nat) (cm : Nat → Int32) (aw : Int32) (ea : Nat) (pts : Nat → Nat → Int) (ce : Nat → Int) : Prop := f 38 3 = nI np ∧ f 38 4 = nI n ∧ f 38 5 = aw ∧ f 38 6 = nI ea ∧ (∀ p, p < np → ∀ c, c < n → f 40 (6 * p + c) = iI (pts p c)) ∧ (∀ p, p ≤ np → f 41 p = iI (ce p)) ∧ (∀ p, p < np → f 42 p = cm p)
def Pre (f : Nat → Nat → Int32) (n part q : Nat) : Prop := (∀ p, p < part → f 43 p = nI (dg n part q p)) ∧ ∀ c, c < n → ∀ p, p < 32 → bt (f 44 c) p = (decide (p < part) && decide (dg n part q p = c))
def Fc (part : Nat) (f f' : Nat → Nat → Int32) : Prop := (∀ r, r ≠ 38 → r ≠ 39 → r ≠ 43 → f' r = f r) ∧ (∀ i, 2 ≤ i → f' 38 i = f 38 i) ∧ ∀ p, p < part → f' 43 p = f 43 p
/-- what is fixed: sizes and bounds -/
def Ok (n np ea : Nat) (aw : Int32) (pts : Nat → Nat → Int) (ce mx : Nat → Int) : Prop := n ≤ 6 ∧ np ≤ 6 ∧ ea ≤ 1 ∧ (∀ p, p < np → ∀ c, c < n → -1000 ≤ pts p c ∧ pts p c ≤ 1000) ∧ (∀ p, p ≤ np → -6000 ≤ ce p ∧ ce p ≤ 6000) ∧ ce np = 0 ∧ (∀ p, p < np → ce p = ce (p + 1) + mx p) ∧ ∀ p, p < np → ∀ c, c < n → nI c ≠ aw → pts p c ≤ mx p
theorem Dt_c {f f' : Nat → Nat → Int32} {n np ea : Nat} {cm : Nat → Int32} {aw : Int32} {pts : Nat → Nat → Int} {ce : Nat → Int} (h1 : ∀ i, 2 ≤ i → f' 38 i = f 38 i) (h2 : ∀ r, 40 ≤ r → r ≤ 42 → f' r = f r) (h : Dt f n np cm aw ea pts ce) : Dt f' n np cm aw ea pts ce := by
  unfold Dt
  rw [h1 3 (by decide), h1 4 (by decide), h1 5 (by decide), h1 6 (by decide), h2 40 (by decide) (by decide), h2 41 (by decide) (by decide), h2 42 (by decide) (by decide)]
  exact h
theorem sc_bd {n np ea : Nat} {aw : Int32} {pts : Nat → Nat → Int} {ce mx : Nat → Int} (hO : Ok n np ea aw pts ce mx) {D : Nat → Nat} {part : Nat} (hp : part ≤ np) (hD : ∀ p, p < part → D p < n) : -6000 ≤ sm (fun p => pts p (D p)) part ∧ sm (fun p => pts p (D p)) part ≤ 6000 := by
  have := sm_bd (f := fun p => pts p (D p)) (a := -1000) (b := 1000) (by decide) (by decide) part (fun i hi => hO.2.2.2.1 i (by omega) _ (hD i hi))
  have h6 := hO.2.1
  omega
/-- none of a block can be, or be better -/
theorem blk_w {n np part m q k : Nat} {cm : Nat → Int32} {aw : Int32} (hpm : part + m = np) (hk : k / n ^ m = q) (hw : m < un n part (dg n part q)) : ¬ Vd n np cm aw 1 k := by
  intro hv
  have hz := (un_z n np (dg n np k)).mpr (hv.2.2 rfl)
  have hle := un_le n (dg n np k) m part
  rw [hpm, hz] at hle
  have hc : un n part (dg n np k) = un n part (dg n part q) := un_congr (fun p hp => dg_blk (by rw [show np - part = m by omega]; exact hk) hp (by omega))
  omega
theorem blk_c {n np part m q k ea : Nat} {cm : Nat → Int32} {aw : Int32} {pts : Nat → Nat → Int} {ce mx : Nat → Int} (hO : Ok n np ea aw pts ce mx) (hn : 0 < n) (hpm : part + m = np) (hk : k / n ^ m = q) (hv : Vd n np cm aw ea k) : scd n np pts k ≤ sm (fun p => pts p (dg n part q p)) part + ce part := by
  have h := sm_ceil (f := fun p => pts p (dg n np k p)) hO.2.2.2.2.2.1 hO.2.2.2.2.2.2.1 (fun p hp => hO.2.2.2.2.2.2.2 p hp _ (dg_lt hn _ _ _) (hv.2.1 p hp)) m part hpm
  have hb : k / n ^ (np - part) = q := by rw [show np - part = m by omega]; exact hk
  have e : sm (fun p => pts p (dg n np k p)) part = sm (fun p => pts p (dg n part q p)) part := sm_congr part (fun p hp => by rw [dg_blk hb hp (by omega)])
  unfold scd
  omega
theorem x_keep (E : zE) (d : Nat) (s : Int32) (f : Nat → Nat → Int32) (t : (Nat → Nat → Int64) × Nat) (K : Option Value → zH → Prop) : Cl E d 9 [.ref 38, .int s] (HP (f, t)) K = K none (HP (setR (set2 (set2 f 38 0 1) 38 1 s) 39 (itr (fun i g => upd g i (f 43 i)) 6 (f 39)), t)) := by
  have i39 : isI 39 6 := rfl
  have i43 : isI 43 6 := rfl
  have e43 : ∀ (g : Nat → Int32), setR (set2 (set2 f 38 0 1) 38 1 s) 39 g 43 = f 43 := fun g => by rw [setR_n (by decide), set2_a (by decide), set2_a (by decide)]
  have e39 : set2 (set2 f 38 0 1) 38 1 s 39 = f 39 := by rw [set2_a (by decide), set2_a (by decide)]
  have l := itr_eq (fun i g => Ev E d zm_X0_keep 12 [some (.ref 38), some (.int s), some (.int (nI i))] [] (HP (setR (set2 (set2 f 38 0 1) 38 1 s) 39 g, t)) K) (fun i g => upd g i (f 43 i)) (f 39) 6 (fun i hi => by
    generalize itr _ i _ = g
    rw [e_X0_keep_12]
    simp only [↓e_X0_keep_5, ↓e_X0_keep_10, ↓e_X0_keep_18, ↓e_X0_keep_22, ↓e_X0_keep_27, ↓e_X0_keep_29, ↓e_X0_keep_30, ↓e_X0_keep_36, g0 o0_38, Nat.reduceAdd, ri_k i43 hi (by decide), wi_k i39 hi (by decide), e43, set2_R (setR (set2 (set2 f 38 0 1) 38 1 s) 39 g), setR_s, setR_2, zk_i, zk_r, zk_n, lt_lit (n := 6) (x := 6) (by decide) (show i < 2 ^ 31 by omega) (by decide), hi, ↓reduceIte, nI_1])
  rw [nI_0] at l
  simp only [↓c_X0_keep, ↓e_X0_keep_0, ↓e_X0_keep_5, ↓e_X0_keep_10, ↓e_X0_keep_18, ↓e_X0_keep_22, ↓e_X0_keep_27, ↓e_X0_keep_29, ↓e_X0_keep_30, ↓e_X0_keep_36, p0 o0_38, zk_i, zk_r, zk_n]
  have es : HP (set2 (set2 f 38 0 1) 38 1 s, t) = HP (setR (set2 (set2 f 38 0 1) 38 1 s) 39 (f 39), t) := by
    rw [← e39, setR_id]
  rw [es, l, e_X0_keep_12]
  simp only [↓e_X0_keep_5, ↓e_X0_keep_10, ↓e_X0_keep_18, ↓e_X0_keep_22, ↓e_X0_keep_27, ↓e_X0_keep_29, ↓e_X0_keep_30, ↓e_X0_keep_36, lt_lit (n := 6) (x := 6) (by decide) (show 6 < 2 ^ 31 by decide) (by decide), Nat.lt_irrefl, ↓reduceIte]
