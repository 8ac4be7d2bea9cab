/-! the first of the best rows: numbers, digits, counts (pure) -/
/-- of the rows below K the first with the most points -/
def Pk (V : Nat → Prop) (sc : Nat → Int) (K : Nat) (o : Option Nat) : Prop := match o with
  | none => ∀ k, k < K → ¬ V k
  | some j => j < K ∧ V j ∧ ∀ k, k < K → V k → sc k ≤ sc j ∧ (k < j → sc k < sc j)
theorem Pk_0 (V : Nat → Prop) (sc : Nat → Int) : Pk V sc 0 none := fun _ h => absurd h (Nat.not_lt_zero _)
theorem Pk_skip {V : Nat → Prop} {sc : Nat → Int} {K K' : Nat} {o : Option Nat} (h : Pk V sc K o) (hK : K ≤ K') (hs : ∀ k, K ≤ k → k < K' → V k → ∃ j, o = some j ∧ sc k ≤ sc j) : Pk V sc K' o := by
  cases o with
  | none =>
    intro k hk hv
    rcases Nat.lt_or_ge k K with q | q
    · exact h k q hv
    · obtain ⟨j, e, -⟩ := hs k q hk hv
      cases e
  | some j =>
    obtain ⟨h1, h2, h3⟩ := h
    refine ⟨by omega, h2, fun k hk hv => ?_⟩
    rcases Nat.lt_or_ge k K with q | q
    · exact h3 k q hv
    · obtain ⟨j', e, hle⟩ := hs k q hk hv
      cases e
      exact ⟨hle, fun _ => by omega⟩
theorem Pk_take {V : Nat → Prop} {sc : Nat → Int} {K : Nat} {o : Option Nat} (h : Pk V sc K o) (hv : V K) (hs : ∀ j, o = some j → sc j < sc K) : Pk V sc (K + 1) (some K) := by
  refine ⟨by omega, hv, fun k hk hvk => ?_⟩
  rcases Nat.lt_or_ge k K with q | q
  · cases o with
    | none => exact absurd hvk (h k q)
    | some j =>
      have h1 := (h.2.2 k q hvk).1
      have h2 := hs j rfl
      exact ⟨by omega, fun _ => by omega⟩
  · have e : k = K := by omega
    subst e
    exact ⟨Int.le_refl _, fun q => by omega⟩
theorem Pk_uniq {V : Nat → Prop} {sc : Nat → Int} {K : Nat} {o o' : Option Nat} (h : Pk V sc K o) (h' : Pk V sc K o') : o = o' := by
  cases o with
  | none =>
    cases o' with
    | none => rfl
    | some j => exact absurd h'.2.1 (h j h'.1)
  | some i =>
    cases o' with
    | none => exact absurd h.2.1 (h' i h.1)
    | some j =>
      have a := h.2.2 j h'.1 h'.2.1
      have b := h'.2.2 i h.1 h.2.1
      have : i = j := by
        rcases Nat.lt_trichotomy i j with q | q | q
        · have := b.2 q
          omega
        · exact q
        · have := a.2 q
          omega
      rw [this]
theorem Pk_congr {V V' : Nat → Prop} {sc sc' : Nat → Int} {K : Nat} {o : Option Nat} (hV : ∀ k, k < K → (V k ↔ V' k)) (hs : ∀ k, k < K → V k → sc k = sc' k) (h : Pk V sc K o) : Pk V' sc' K o := by
  cases o with
  | none => exact fun k hk hv => h k hk ((hV k hk).mpr hv)
  | some j =>
    refine ⟨h.1, (hV j h.1).mp h.2.1, fun k hk hv => ?_⟩
    have hv' := (hV k hk).mpr hv
    rw [← hs k hk hv', ← hs j h.1 h.2.1]
    exact h.2.2 k hk hv'
/-- the digit at place p of k, of np digits to the base n -/
def dg (n np k p : Nat) : Nat := k / n ^ (np - 1 - p) % n
theorem dg_lt {n : Nat} (hn : 0 < n) (np k p : Nat) : dg n np k p < n := Nat.mod_lt _ hn
theorem dg_ext {n part q c p : Nat} (hc : c < n) (hp : p < part) : dg n (part + 1) (q * n + c) p = dg n part q p := by
  unfold dg
  rw [show part + 1 - 1 - p = (part - 1 - p) + 1 by omega, Nat.pow_succ, Nat.mul_comm (n ^ (part - 1 - p)) n, ← Nat.div_div_eq_div_mul]
  have : (q * n + c) / n = q := by
    rw [Nat.mul_comm, Nat.mul_add_div (by omega), Nat.div_eq_of_lt hc, Nat.add_zero]
  rw [this]
theorem dg_last {n part q c : Nat} (hc : c < n) : dg n (part + 1) (q * n + c) part = c := by
  unfold dg
  rw [show part + 1 - 1 - part = 0 by omega, Nat.pow_zero, Nat.div_one, Nat.mul_comm, Nat.mul_add_mod, Nat.mod_eq_of_lt hc]
theorem dg_blk {n np part q k p : Nat} (hk : k / n ^ (np - part) = q) (hp : p < part) (hpn : part ≤ np) : dg n np k p = dg n part q p := by
  unfold dg
  rw [show np - 1 - p = (np - part) + (part - 1 - p) by omega, Nat.pow_add, ← Nat.div_div_eq_div_mul, hk]
theorem blk_of {k q B : Nat} (h1 : q * B ≤ k) (h2 : k < (q + 1) * B) : k / B = q := by
  have hB : 0 < B := by
    rcases Nat.eq_zero_or_pos B with e | e
    · subst e
      omega
    · exact e
  have a : q ≤ k / B := (Nat.le_div_iff_mul_le hB).mpr h1
  have b : k / B < q + 1 := (Nat.div_lt_iff_lt_mul hB).mpr h2
  omega
/-- sums -/
def sm (f : Nat → Int) : Nat → Int
  | 0 => 0
  | n + 1 => sm f n + f n
theorem sm_congr {f g : Nat → Int} : ∀ n, (∀ i, i < n → f i = g i) → sm f n = sm g n
  | 0, _ => rfl
  | n + 1, h => by
    show sm f n + f n = sm g n + g n
    rw [sm_congr n (fun i hi => h i (by omega)), h n (by omega)]
theorem sm_bd {f : Nat → Int} {a b : Int} (ha : a ≤ 0) (hb : 0 ≤ b) : ∀ n, (∀ i, i < n → a ≤ f i ∧ f i ≤ b) → a * n ≤ sm f n ∧ sm f n ≤ b * n
  | 0, _ => ⟨by simp [sm], by simp [sm]⟩
  | n + 1, h => by
    have ih := sm_bd ha hb n (fun i hi => h i (by omega))
    have hn := h n (by omega)
    show a * ((n + 1 : Nat) : Int) ≤ sm f n + f n ∧ sm f n + f n ≤ b * ((n + 1 : Nat) : Int)
    rw [Int.natCast_add, Int.mul_add, Int.mul_add]
    simp only [Int.natCast_one, Int.mul_one]
    omega
theorem sm_ceil {f mx ce : Nat → Int} {np : Nat} (h0 : ce np = 0) (hs : ∀ p, p < np → ce p = ce (p + 1) + mx p) (hf : ∀ p, p < np → f p ≤ mx p) : ∀ j p, p + j = np → sm f np ≤ sm f p + ce p
  | 0, p, hj => by
    have e : p = np := by omega
    subst e
    omega
  | j + 1, p, hj => by
    have ih := sm_ceil h0 hs hf j (p + 1) (by omega)
    have h1 := hs p (by omega)
    have h2 := hf p (by omega)
    have h3 : sm f (p + 1) = sm f p + f p := rfl
    omega
/-- how many -/
def cnt (P : Nat → Bool) : Nat → Nat
  | 0 => 0
  | n + 1 => cnt P n + (if P n = true then 1 else 0)
theorem cnt_congr {P Q : Nat → Bool} : ∀ n, (∀ i, i < n → P i = Q i) → cnt P n = cnt Q n
  | 0, _ => rfl
  | n + 1, h => by
    show cnt P n + _ = cnt Q n + _
    rw [cnt_congr n (fun i hi => h i (by omega)), h n (by omega)]
theorem cnt_rm (P : Nat → Bool) (c : Nat) : ∀ n, cnt (fun i => P i && !decide (i = c)) n + (if c < n ∧ P c = true then 1 else 0) = cnt P n
  | 0 => by simp [cnt]
  | n + 1 => by
    have ih := cnt_rm P c n
    show cnt (fun i => P i && !decide (i = c)) n + (if (P n && !decide (n = c)) = true then 1 else 0) + (if c < n + 1 ∧ P c = true then 1 else 0) = cnt P n + (if P n = true then 1 else 0)
    by_cases e : n = c
    · subst e
      have h1 : ¬ (n < n ∧ P n = true) := by omega
      rw [if_neg h1] at ih
      have h2 : ¬ ((P n && !decide (n = n)) = true) := by simp
      rw [if_neg h2]
      by_cases hp : P n = true
      · rw [if_pos ⟨by omega, hp⟩, if_pos hp]
        omega
      · rw [if_neg (fun q => hp q.2), if_neg hp]
        omega
    · have h1 : (c < n + 1 ∧ P c = true) ↔ (c < n ∧ P c = true) := by
        constructor
        · exact fun q => ⟨by omega, q.2⟩
        · exact fun q => ⟨by omega, q.2⟩
      have h2 : (P n && !decide (n = c)) = P n := by simp [e]
      rw [h2]
      simp only [h1]
      omega
theorem cnt_0 {P : Nat → Bool} : ∀ n, cnt P n = 0 ↔ ∀ i, i < n → P i = false
  | 0 => by simp [cnt]
  | n + 1 => by
    show cnt P n + _ = 0 ↔ _
    have ih := cnt_0 (P := P) n
    constructor
    · intro h i hi
      by_cases e : i = n
      · subst e
        cases hp : P i with
        | false => rfl
        | true => rw [hp] at h; simp at h
      · exact ih.mp (by omega) i (by omega)
    · intro h
      rw [h n (by omega), ih.mpr (fun i hi => h i (by omega))]
      rfl
theorem cnt_all : ∀ n, cnt (fun _ => true) n = n
  | 0 => rfl
  | n + 1 => by
    show cnt (fun _ => true) n + 1 = n + 1
    rw [cnt_all n]
/-- not told in the first of a row -/
def fr (D : Nat → Nat) (part c : Nat) : Bool := itr (fun p b => b && !decide (c = D p)) part true
theorem fr_t (D : Nat → Nat) (part c : Nat) : fr D part c = true ↔ ∀ p, p < part → ¬ c = D p := by
  unfold fr
  rw [itr_and (fun p => !decide (c = D p)) part true]
  simp
def un (n part : Nat) (D : Nat → Nat) : Nat := cnt (fr D part) n
theorem un_0 (n : Nat) (D : Nat → Nat) : un n 0 D = n := cnt_all n
theorem un_step (n part : Nat) (D : Nat → Nat) : un n (part + 1) D + (if D part < n ∧ fr D part (D part) = true then 1 else 0) = un n part D := by
  have := cnt_rm (fr D part) (D part) n
  exact this
theorem un_le (n : Nat) (D : Nat → Nat) : ∀ j part, un n part D ≤ un n (part + j) D + j
  | 0, part => Nat.le_refl _
  | j + 1, part => by
    have ih := un_le n D j (part + 1)
    have h := un_step n part D
    rw [show part + (j + 1) = part + 1 + j by omega]
    split at h <;> omega
theorem un_z (n part : Nat) (D : Nat → Nat) : un n part D = 0 ↔ ∀ c, c < n → ∃ p, p < part ∧ D p = c := by
  unfold un
  rw [cnt_0]
  constructor
  · intro h c hc
    refine Classical.byContradiction (fun q => ?_)
    have := (fr_t D part c).mpr (fun p hp e => q ⟨p, hp, e.symm⟩)
    rw [h c hc] at this
    cases this
  · intro h c hc
    obtain ⟨p, hp, e⟩ := h c hc
    cases hf : fr D part c with
    | false => rfl
    | true => exact absurd e.symm ((fr_t D part c).mp hf p hp)
theorem un_congr {n part : Nat} {D D' : Nat → Nat} (h : ∀ p, p < part → D p = D' p) : un n part D = un n part D' := by
  refine cnt_congr n (fun c _ => ?_)
  rw [Bool.eq_iff_iff, fr_t, fr_t]
  exact ⟨fun q p hp => by rw [← h p hp]; exact q p hp, fun q p hp => by rw [h p hp]; exact q p hp⟩
