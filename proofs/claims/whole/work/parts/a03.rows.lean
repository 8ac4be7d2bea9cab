/-! the reference's rows -/
theorem ly_1 (m np k : Nat) (g : Nat → Int32) : ∀ j, (itr (lyG m np) j (k, g)).1 = k / m ^ j
  | 0 => by rw [itr_z, Nat.pow_zero, Nat.div_one]
  | j + 1 => by
    rw [itr_s]
    show (itr (lyG m np) j (k, g)).1 / m = _
    rw [ly_1 m np k g j, Nat.pow_succ, Nat.div_div_eq_div_mul]
theorem ly_2 (m np k : Nat) (g : Nat → Int32) (p : Nat) : ∀ j, j ≤ np → (itr (lyG m np) j (k, g)).2 p = if np - j ≤ p ∧ p < np then nI (dg m np k p) else g p
  | 0, _ => by
    rw [itr_z, if_neg (by omega)]
  | j + 1, hj => by
    rw [itr_s]
    show upd (itr (lyG m np) j (k, g)).2 (np - 1 - j) (nI ((itr (lyG m np) j (k, g)).1 % m)) p = _
    unfold upd
    by_cases e : p = np - 1 - j
    · rw [if_pos e, if_pos (by omega), ly_1]
      unfold dg
      rw [show np - 1 - p = j by omega]
    · rw [if_neg e, ly_2 m np k g p j (by omega)]
      by_cases q : np - j ≤ p ∧ p < np
      · rw [if_pos q, if_pos (by omega)]
      · rw [if_neg q, if_neg (by omega)]
theorem ly_at (m np k : Nat) (g : Nat → Int32) {p : Nat} (hp : p < np) : (itr (lyG m np) np (k, g)).2 p = nI (dg m np k p) := by
  rw [ly_2 m np k g p np (Nat.le_refl _), if_pos (by omega)]
theorem itr_and2 (g : Nat → Nat → Bool) (n : Nat) : itr (fun a r => itr (fun b r => r && g a b) a r) n true = true ↔ ∀ a, a < n → ∀ b, b < a → g a b = true := by
  have e : (fun a r => itr (fun b r => r && g a b) a r) = fun a r => r && itr (fun b r => r && g a b) a true := by
    funext a r
    rw [Bool.eq_iff_iff, Bool.and_eq_true, itr_and, itr_and]
    simp
  rw [e, itr_and (fun a => itr (fun b r => r && g a b) a true)]
  constructor
  · rintro ⟨-, h⟩ a ha
    exact ((itr_and (g a) a true).mp (h a ha)).2
  · intro h
    exact ⟨rfl, fun a ha => (itr_and (g a) a true).mpr ⟨rfl, h a ha⟩⟩
theorem ly_t {z : zS} {m np k : Nat} (hm0 : 0 < m ∨ np = 0) (hm : m ≤ 6) (hnp : np ≤ 6) (g0 : Nat → Int32) : lyB z (itr (lyG m np) np (k, g0)).2 np = true ↔ ∀ a, a < np → ∀ b, b < a → dg m np k a = dg m np k b → bt (z.1 134 a) b = false := by
  refine Iff.trans (itr_and2 (fun a b => !decide ((itr (lyG m np) np (k, g0)).2 a = (itr (lyG m np) np (k, g0)).2 b) || decide (z.1 134 a >>> (nI b &&& 31) &&& 1 = 0)) np) ?_
  have key : ∀ a, a < np → ∀ b, b < a → ((!decide ((itr (lyG m np) np (k, g0)).2 a = (itr (lyG m np) np (k, g0)).2 b) || decide (z.1 134 a >>> (nI b &&& 31) &&& 1 = 0)) = true ↔ (dg m np k a = dg m np k b → bt (z.1 134 a) b = false)) := fun a ha b hb => by
    have hlt : ∀ p, dg m np k p < 2 ^ 31 := fun p => by
      have := dg_lt (show 0 < m by omega) np k p
      omega
    rw [ly_at m np k g0 ha, ly_at m np k g0 (by omega), Bool.or_eq_true, Bool.not_eq_true', decide_eq_false_iff_not, decide_eq_true_iff, bit0 (by omega), nI_eq (hlt a) (hlt b)]
    exact ⟨fun q e => q.elim (fun x => absurd e x) id, fun q => by
      by_cases e : dg m np k a = dg m np k b
      · exact Or.inr (q e)
      · exact Or.inl e⟩
  exact ⟨fun h a ha b hb => (key a ha b hb).mp (h a ha b hb), fun h a ha b hb => (key a ha b hb).mpr (h a ha b hb)⟩
theorem itr_rows (m : Nat) : ∀ n, itr (fun _ b => b * nI m) n 1 = nI (m ^ n)
  | 0 => rfl
  | n + 1 => by
    rw [itr_s, itr_rows m n, nI_mul, Nat.pow_succ]
theorem pow66 {m n : Nat} (hm : m ≤ 6) (hn : n ≤ 6) : m ^ n ≤ 46656 := Nat.le_trans (Nat.pow_le_pow_left hm n) (Nat.pow_le_pow_right (n := 6) (by decide) hn)
/-- who plays in a row, as bits -/
theorem pl_bt {f : Nat → Nat → Int32} {np : Nat} {D : Nat → Nat} (hD : ∀ p, p < np → f 135 p = nI (D p) ∧ D p < 6) {c : Nat} (hc : c < 32) : bt (itr (fun i b => b ||| (1 <<< (f 135 i &&& 31))) np 0) c = true ↔ ∃ p, p < np ∧ D p = c := by
  have e : itr (fun i b => b ||| (1 <<< (f 135 i &&& 31))) np 0 = itr (fun i b => if (fun _ => true) i = true then b ||| (1 <<< (nI (D i) &&& 31)) else b) np 0 := itr_congr np (fun i hi => by
    rw [(hD i hi).1, if_pos rfl])
  rw [e, itr_bits (fun _ => true) D hc np 0 (fun i hi => by have := (hD i hi).2; omega), b_0]
  constructor
  · rintro (q | ⟨i, hi, -, e⟩)
    · exact absurd q (by decide)
    · exact ⟨i, hi, e⟩
  · rintro ⟨i, hi, e⟩
    exact Or.inr ⟨i, hi, rfl, e⟩
theorem full_bt : ∀ n, n < 7 → ∀ i, i < 32 → bt ((1 <<< (nI n &&& 31)) - 1) i = decide (i < n) := by decide +kernel
theorem pl_full {f : Nat → Nat → Int32} {np n : Nat} {D : Nat → Nat} (hn : n ≤ 6) (hD : ∀ p, p < np → f 135 p = nI (D p) ∧ D p < n) : (itr (fun i b => b ||| (1 <<< (f 135 i &&& 31))) np 0 = (1 <<< (nI n &&& 31)) - 1) = (∀ c, c < n → ∃ p, p < np ∧ D p = c) := by
  have hD6 : ∀ p, p < np → f 135 p = nI (D p) ∧ D p < 6 := fun p hp => ⟨(hD p hp).1, by have := (hD p hp).2; omega⟩
  refine propext ⟨fun e c hc => ?_, fun h => b_ext (fun i hi => ?_)⟩
  · rw [← pl_bt hD6 (show c < 32 by omega), e, full_bt n (by omega) c (by omega)]
    exact decide_eq_true hc
  · rw [full_bt n (by omega) i hi, Bool.eq_iff_iff, pl_bt hD6 hi, decide_eq_true_iff]
    constructor
    · rintro ⟨p, hp, e⟩
      have := (hD p hp).2
      omega
    · exact h i
theorem fitM_c {z z' : zS} (h : z'.1 130 = z.1 130) (c p : Nat) : fitM z' c p = fitM z c p := by
  unfold fitM
  rw [h]
theorem rf_sum {z : zS} {np nc ns nl ny ch ea : Nat} (h : RT z.1 1 0 np nc ns nl ny ch ea) {D : Nat → Nat} (hD : ∀ p, p < np → D p < nc) : ∀ n, n ≤ np → itr (fun i b => b + fitM z (D i) i) n 0 = iI (sm (fun p => fitI z p (D p)) n)
  | 0, _ => rfl
  | n + 1, hn => by
    rw [itr_s, rf_sum h hD n (by omega), (q_fitI h (hD n (by omega)) (show n < np by omega)).2.1, iI_add]
    rfl
/-- what the reference has found -/
def SM (f : Nat → Nat → Int32) (n np : Nat) (pts : Nat → Nat → Int) (chg : Nat → Nat) (o : Option Nat) : Prop := match o with
  | none => f 129 14 = 0
  | some j => f 129 14 = 1 ∧ f 129 12 = iI (scd n np pts j) ∧ f 129 13 = nI (chg j) ∧ ∀ p, p < np → f 136 p = nI (dg n np j p)
theorem SM_c {f f' : Nat → Nat → Int32} {n np : Nat} {pts : Nat → Nat → Int} {chg : Nat → Nat} {o : Option Nat} (h1 : f' 129 = f 129) (h2 : f' 136 = f 136) (h : SM f n np pts chg o) : SM f' n np pts chg o := by
  cases o with
  | none =>
    show f' 129 14 = 0
    rw [h1]
    exact h
  | some j =>
    show f' 129 14 = 1 ∧ f' 129 12 = _ ∧ f' 129 13 = _ ∧ ∀ p, p < np → f' 136 p = _
    rw [h1, h2]
    exact h
theorem SM_take {f : Nat → Nat → Int32} {n np k : Nat} {pts : Nat → Nat → Int} {chg : Nat → Nat} {v c : Int32} (hv : v = iI (scd n np pts k)) (hc : c = nI (chg k)) (hr : ∀ p, p < np → f 135 p = nI (dg n np k p)) : SM (setR (setR f 129 (upd (upd (upd (f 129) 14 1) 12 v) 13 c)) 136 (itr (fun i g => upd g i (f 135 i)) np (f 136))) n np pts chg (some k) := by
  refine ⟨?_, ?_, ?_, fun p hp => ?_⟩
  · rw [setR_n (by decide), setR_s]
    rfl
  · rw [setR_n (by decide), setR_s, ← hv]
    rfl
  · rw [setR_n (by decide), setR_s, ← hc]
    rfl
  · rw [setR_s, itr_updv (f 135), if_pos hp]
    exact hr p hp
