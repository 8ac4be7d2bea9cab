/-! pure rows for the specs -/
/-- a truth as the machine has it -/
def bI (b : Bool) : Int32 := if b = true then 1 else 0
theorem bI_0 (b : Bool) : (bI b = 0) = (b = false) := by cases b <;> decide
theorem bI_1 (b : Bool) : (bI b = 1) = (b = true) := by cases b <;> decide
theorem bI_01 (b : Bool) : (bI b = 0 ∨ bI b = 1) = True := by cases b <;> decide
theorem bI_t : bI true = 1 := rfl
theorem bI_f : bI false = 0 := rfl
theorem Kite {K : Option Value → zH → Prop} {h : zH} {c : Prop} [Decidable c] {a b : Int32} : K (some (.int (if c then a else b))) h = if c then K (some (.int a)) h else K (some (.int b)) h := by split <;> rfl
/-- 0 .. n - 1 -/
def inB (p n : Int32) : Bool := !decide (p < 0) && decide (p < n)
theorem inB_t {p n : Int32} : inB p n = true ↔ ¬ p < 0 ∧ p < n := by
  unfold inB
  simp
theorem inB_nI {i n : Nat} (hi : i < 2 ^ 31) (hn : n < 2 ^ 31) : inB (nI i) (nI n) = decide (i < n) := by
  have h1 := nI_pos hi
  by_cases h : i < n
  · rw [decide_eq_true h]
    exact inB_t.mpr ⟨h1, nI_lt h hn⟩
  · rw [decide_eq_false h]
    cases hb : inB (nI i) (nI n) with
    | false => rfl
    | true => exact absurd ((nI_ltI hi hn).mp (inB_t.mp hb).2) h
/-- n times, with the number -/
def itr {σ : Type} (f : Nat → σ → σ) : Nat → σ → σ
  | 0, s => s
  | n + 1, s => f n (itr f n s)
theorem itr_eq {σ : Type} (W : Nat → σ → Prop) (f : Nat → σ → σ) (s : σ) : ∀ n, (∀ i, i < n → W i (itr f i s) = W (i + 1) (f i (itr f i s))) → W 0 s = W n (itr f n s)
  | 0, _ => rfl
  | n + 1, h => (itr_eq W f s n (fun i hi => h i (by omega))).trans (h n (by omega))
theorem itr_congr {σ : Type} {f g : Nat → σ → σ} {s : σ} : ∀ n, (∀ i, i < n → f i (itr g i s) = g i (itr g i s)) → itr f n s = itr g n s
  | 0, _ => rfl
  | n + 1, h => by
    show f n (itr f n s) = g n (itr g n s)
    rw [itr_congr n (fun i hi => h i (by omega))]
    exact h n (by omega)
theorem itr_inv {σ : Type} {f : Nat → σ → σ} {s : σ} (I : Nat → σ → Prop) (h0 : I 0 s) : ∀ n, (∀ i, i < n → I i (itr f i s) → I (i + 1) (f i (itr f i s))) → I n (itr f n s)
  | 0, _ => h0
  | n + 1, h => h n (by omega) (itr_inv I h0 n (fun i hi => h i (by omega)))
theorem nI_lt_iff {i n : Nat} (hi : i < 2 ^ 31) (hn : n < 2 ^ 31) : (nI i < nI n) = (i < n) := propext (nI_ltI hi hn)
theorem nI_cl {i : Nat} (h : i < 2 ^ 31) : (nI i).toNatClampNeg = i := nI_clamp h
theorem nI_neg {i : Nat} (h : i < 2 ^ 31) : (nI i < 0) = False := propext ⟨fun q => nI_pos h q, False.elim⟩
theorem in_nI {i n : Nat} (h : i < n) (hn : n < 2 ^ 31) : vp_in (nI i) n = True := propext ⟨fun _ => trivial, fun _ => vp_in_nI h hn⟩
/-- an int between 0 and a small number -/
theorem of_in {x : Int32} {n : Nat} (hn : n < 2 ^ 31) (h0 : ¬ x < 0) (h1 : x < nI n) : ∃ j, j < n ∧ x = nI j := by
  obtain ⟨j, hj, rfl⟩ := nI_of h0
  exact ⟨j, (nI_ltI hj hn).mp h1, rfl⟩
theorem in_of {x m : Int32} {k n : Nat} (hm : m = nI k) (hk : k ≤ n) (hn : n < 2 ^ 31) (h0 : ¬ x < 0) (h1 : x < m) : vp_in x n := by
  subst hm
  obtain ⟨j, hj, rfl⟩ := of_in (by omega) h0 h1
  exact vp_in_nI (by omega) hn
theorem in_inB {x m : Int32} {k n : Nat} (hm : m = nI k) (hk : k ≤ n) (hn : n < 2 ^ 31) (h : inB x m = true) : vp_in x n := in_of hm hk hn (inB_t.mp h).1 (inB_t.mp h).2
theorem of_inB {x m : Int32} {n : Nat} (hm : m = nI n) (hn : n < 2 ^ 31) (h : inB x m = true) : ∃ j, j < n ∧ x = nI j := by
  subst hm
  exact of_in hn (inB_t.mp h).1 (inB_t.mp h).2
/-- a script stands at o -/
def isS (o : Nat) : Prop := isO6 o ∧ isI (o + 1) 6 ∧ isI (o + 2) 6 ∧ isI (o + 3) 6 ∧ isI (o + 4) 6 ∧ isI (o + 5) 6 ∧ isI (o + 6) 6 ∧ isI (o + 7) 6 ∧ isI (o + 8) 6 ∧ isI (o + 9) 18 ∧ isI (o + 10) 7 ∧ isI (o + 11) 7
theorem isS_2 : isS 2 := ⟨o6_2, rfl, rfl, rfl, rfl, rfl, rfl, rfl, rfl, rfl, rfl, rfl⟩
theorem isS_25 : isS 25 := ⟨o6_25, rfl, rfl, rfl, rfl, rfl, rfl, rfl, rfl, rfl, rfl, rfl⟩
theorem isS_59 : isS 59 := ⟨o6_59, rfl, rfl, rfl, rfl, rfl, rfl, rfl, rfl, rfl, rfl, rfl⟩
theorem isS_78 : isS 78 := ⟨o6_78, rfl, rfl, rfl, rfl, rfl, rfl, rfl, rfl, rfl, rfl, rfl⟩
theorem isS_92 : isS 92 := ⟨o6_92, rfl, rfl, rfl, rfl, rfl, rfl, rfl, rfl, rfl, rfl, rfl⟩
theorem isS_111 : isS 111 := ⟨o6_111, rfl, rfl, rfl, rfl, rfl, rfl, rfl, rfl, rfl, rfl, rfl⟩
/-- its arrays, read and written -/
theorem rS {o : Nat} (h : isS o) : (∀ (E : zE) (z : zS) (i : Int32) (K : Int32 → Prop), zri E (HP z) (o + 1) i K = (vp_in i 6 ∧ K (z.1 (o + 1) i.toNatClampNeg))) ∧ (∀ (E : zE) (z : zS) (i : Int32) (K : Int32 → Prop), zri E (HP z) (o + 2) i K = (vp_in i 6 ∧ K (z.1 (o + 2) i.toNatClampNeg))) ∧ (∀ (E : zE) (z : zS) (i : Int32) (K : Int32 → Prop), zri E (HP z) (o + 3) i K = (vp_in i 6 ∧ K (z.1 (o + 3) i.toNatClampNeg))) ∧ (∀ (E : zE) (z : zS) (i : Int32) (K : Int32 → Prop), zri E (HP z) (o + 4) i K = (vp_in i 6 ∧ K (z.1 (o + 4) i.toNatClampNeg))) ∧ (∀ (E : zE) (z : zS) (i : Int32) (K : Int32 → Prop), zri E (HP z) (o + 5) i K = (vp_in i 6 ∧ K (z.1 (o + 5) i.toNatClampNeg))) ∧ (∀ (E : zE) (z : zS) (i : Int32) (K : Int32 → Prop), zri E (HP z) (o + 6) i K = (vp_in i 6 ∧ K (z.1 (o + 6) i.toNatClampNeg))) ∧ (∀ (E : zE) (z : zS) (i : Int32) (K : Int32 → Prop), zri E (HP z) (o + 7) i K = (vp_in i 6 ∧ K (z.1 (o + 7) i.toNatClampNeg))) ∧ (∀ (E : zE) (z : zS) (i : Int32) (K : Int32 → Prop), zri E (HP z) (o + 8) i K = (vp_in i 6 ∧ K (z.1 (o + 8) i.toNatClampNeg))) ∧ (∀ (E : zE) (z : zS) (i : Int32) (K : Int32 → Prop), zri E (HP z) (o + 9) i K = (vp_in i 18 ∧ K (z.1 (o + 9) i.toNatClampNeg))) ∧ (∀ (E : zE) (z : zS) (i : Int32) (K : Int32 → Prop), zri E (HP z) (o + 10) i K = (vp_in i 7 ∧ K (z.1 (o + 10) i.toNatClampNeg))) ∧ (∀ (E : zE) (z : zS) (i : Int32) (K : Int32 → Prop), zri E (HP z) (o + 11) i K = (vp_in i 7 ∧ K (z.1 (o + 11) i.toNatClampNeg))) := by
  obtain ⟨-, h1, h2, h3, h4, h5, h6, h7, h8, h9, h10, h11⟩ := h
  exact ⟨fun _ _ _ _ => HP_ri h1, fun _ _ _ _ => HP_ri h2, fun _ _ _ _ => HP_ri h3, fun _ _ _ _ => HP_ri h4, fun _ _ _ _ => HP_ri h5, fun _ _ _ _ => HP_ri h6, fun _ _ _ _ => HP_ri h7, fun _ _ _ _ => HP_ri h8, fun _ _ _ _ => HP_ri h9, fun _ _ _ _ => HP_ri h10, fun _ _ _ _ => HP_ri h11⟩
/-- how many parts, children, scenes it has -/
def wfS (z : zS) (o np nc ns : Nat) : Prop := z.1 o 0 = nI np ∧ z.1 o 4 = nI nc ∧ z.1 o 11 = nI ns ∧ np ≤ 6 ∧ nc ≤ 6 ∧ ns ≤ 7
/-- a whole row replaced -/
def setR (f : Nat → Nat → Int32) (r : Nat) (g : Nat → Int32) : Nat → Nat → Int32 := fun a => if a = r then g else f a
theorem setR_s (f : Nat → Nat → Int32) (r : Nat) (g : Nat → Int32) : setR f r g r = g := if_pos rfl
theorem setR_n {a r : Nat} (h : a ≠ r) (f : Nat → Nat → Int32) (g : Nat → Int32) : setR f r g a = f a := if_neg h
theorem setR_2 (f : Nat → Nat → Int32) (r : Nat) (g g' : Nat → Int32) : setR (setR f r g) r g' = setR f r g' := by
  funext a
  unfold setR
  split <;> rfl
theorem setR_id (f : Nat → Nat → Int32) (r : Nat) : setR f r (f r) = f := by
  funext a
  unfold setR
  split
  · rename_i h; rw [h]
  · rfl
theorem set2_R (f : Nat → Nat → Int32) (o j : Nat) (x : Int32) : set2 f o j x = setR f o (upd (f o) j x) := by
  funext a k
  unfold set2 setR upd
  by_cases h : a = o
  · subst h
    simp
  · simp [h]
theorem upd_s (g : Nat → Int32) (j : Nat) (x : Int32) : upd g j x j = x := if_pos rfl
theorem upd_2 (g : Nat → Int32) (j : Nat) (x y : Int32) : upd (upd g j x) j y = upd g j y := by
  funext k
  unfold upd
  split <;> rfl
theorem upd_id (g : Nat → Int32) (j : Nat) : upd g j (g j) = g := by
  funext k
  unfold upd
  split
  · rename_i h; rw [h]
  · rfl
theorem wS {o : Nat} (h : isS o) : (∀ (z : zS) (i x : Int32) (K : zH → Prop), zwi (HP z) (o + 1) i x K = (vp_in i 6 ∧ K (HP (set2 z.1 (o + 1) i.toNatClampNeg x, z.2)))) ∧ (∀ (z : zS) (i x : Int32) (K : zH → Prop), zwi (HP z) (o + 2) i x K = (vp_in i 6 ∧ K (HP (set2 z.1 (o + 2) i.toNatClampNeg x, z.2)))) ∧ (∀ (z : zS) (i x : Int32) (K : zH → Prop), zwi (HP z) (o + 3) i x K = (vp_in i 6 ∧ K (HP (set2 z.1 (o + 3) i.toNatClampNeg x, z.2)))) ∧ (∀ (z : zS) (i x : Int32) (K : zH → Prop), zwi (HP z) (o + 4) i x K = (vp_in i 6 ∧ K (HP (set2 z.1 (o + 4) i.toNatClampNeg x, z.2)))) ∧ (∀ (z : zS) (i x : Int32) (K : zH → Prop), zwi (HP z) (o + 5) i x K = (vp_in i 6 ∧ K (HP (set2 z.1 (o + 5) i.toNatClampNeg x, z.2)))) ∧ (∀ (z : zS) (i x : Int32) (K : zH → Prop), zwi (HP z) (o + 6) i x K = (vp_in i 6 ∧ K (HP (set2 z.1 (o + 6) i.toNatClampNeg x, z.2)))) ∧ (∀ (z : zS) (i x : Int32) (K : zH → Prop), zwi (HP z) (o + 7) i x K = (vp_in i 6 ∧ K (HP (set2 z.1 (o + 7) i.toNatClampNeg x, z.2)))) ∧ (∀ (z : zS) (i x : Int32) (K : zH → Prop), zwi (HP z) (o + 8) i x K = (vp_in i 6 ∧ K (HP (set2 z.1 (o + 8) i.toNatClampNeg x, z.2)))) ∧ (∀ (z : zS) (i x : Int32) (K : zH → Prop), zwi (HP z) (o + 9) i x K = (vp_in i 18 ∧ K (HP (set2 z.1 (o + 9) i.toNatClampNeg x, z.2)))) ∧ (∀ (z : zS) (i x : Int32) (K : zH → Prop), zwi (HP z) (o + 10) i x K = (vp_in i 7 ∧ K (HP (set2 z.1 (o + 10) i.toNatClampNeg x, z.2)))) ∧ (∀ (z : zS) (i x : Int32) (K : zH → Prop), zwi (HP z) (o + 11) i x K = (vp_in i 7 ∧ K (HP (set2 z.1 (o + 11) i.toNatClampNeg x, z.2)))) ∧ (∀ (E : zE) (z : zS) (K : Int32 → Prop), zal E (HP z) (o + 9) K = K (nI 18)) := by
  obtain ⟨-, h1, h2, h3, h4, h5, h6, h7, h8, h9, h10, h11⟩ := h
  exact ⟨fun _ _ _ _ => HP_wi h1, fun _ _ _ _ => HP_wi h2, fun _ _ _ _ => HP_wi h3, fun _ _ _ _ => HP_wi h4, fun _ _ _ _ => HP_wi h5, fun _ _ _ _ => HP_wi h6, fun _ _ _ _ => HP_wi h7, fun _ _ _ _ => HP_wi h8, fun _ _ _ _ => HP_wi h9, fun _ _ _ _ => HP_wi h10, fun _ _ _ _ => HP_wi h11, fun _ _ _ => HP_al h9⟩
theorem lt_lit {i n : Nat} {x : Int32} (hx : x = nI n) (hi : i < 2 ^ 31) (hn : n < 2 ^ 31) : (nI i < x) = (i < n) := by
  subst hx
  exact nI_lt_iff hi hn
/-- rows copied, an index at a time -/
def cpF (ps : List (Nat × Nat)) (i : Nat) (f : Nat → Nat → Int32) : Nat → Nat → Int32 := ps.foldl (fun f q => set2 f q.1 i (f q.2 i)) f
def cpL (ps : List (Nat × Nat)) (a : Nat) : Nat := match ps.lookup a with
  | some s => s
  | none => a
/-- what they come to -/
def cpN (ps : List (Nat × Nat)) (n : Nat) (f : Nat → Nat → Int32) : Nat → Nat → Int32 := fun a k => if k < n then f (cpL ps a) k else f a k
theorem cpF_at (i : Nat) (a k : Nat) : ∀ (ps : List (Nat × Nat)) (f : Nat → Nat → Int32), (∀ q ∈ ps, ∀ r ∈ ps, q.2 ≠ r.1) → (ps.map Prod.fst).Nodup → cpF ps i f a k = if k = i then f (cpL ps a) k else f a k
  | [], f, _, _ => by
    show f a k = if k = i then f a k else f a k
    split <;> rfl
  | (r, s) :: ps, f, hd, hn => by
    have hn' := List.nodup_cons.mp (show (r :: ps.map Prod.fst).Nodup from hn)
    show cpF ps i (set2 f r i (f s i)) a k = _
    rw [cpF_at i a k ps _ (fun q hq t ht => hd q (List.mem_cons_of_mem _ hq) t (List.mem_cons_of_mem _ ht)) hn'.2]
    have hl : cpL ((r, s) :: ps) a = if a = r then s else cpL ps a := by
      unfold cpL
      rw [List.lookup_cons]
      by_cases h : a = r
      · subst h
        simp
      · have : (a == r) = false := by simpa using h
        rw [this]
        simp [h]
    rw [hl]
    by_cases hk : k = i
    · subst hk
      rw [if_pos rfl, if_pos rfl]
      by_cases ha : a = r
      · subst ha
        have hnl : ps.lookup a = none := by
          cases hc : ps.lookup a with
          | none => rfl
          | some v => exact absurd (List.mem_map.mpr ⟨(a, v), zlookup_mem _ _ _ hc, rfl⟩) hn'.1
        have : cpL ps a = a := by unfold cpL; rw [hnl]
        rw [this, if_pos rfl, set2_s]
      · rw [if_neg ha]
        refine set2_n (Or.inl ?_)
        unfold cpL
        cases hc : ps.lookup a with
        | none => exact ha
        | some v => exact hd (a, v) (List.mem_cons_of_mem _ (zlookup_mem _ _ _ hc)) (r, s) List.mem_cons_self
    · rw [if_neg hk, if_neg hk]
      exact set2_n (Or.inr hk)
theorem cp_itr {ps : List (Nat × Nat)} (hd : ∀ q ∈ ps, ∀ r ∈ ps, q.2 ≠ r.1) (hn : (ps.map Prod.fst).Nodup) (f : Nat → Nat → Int32) : ∀ n, itr (cpF ps) n f = cpN ps n f := by
  intro n
  induction n with
  | zero =>
    funext a k
    show f a k = if k < 0 then _ else f a k
    rw [if_neg (Nat.not_lt_zero k)]
  | succ n ih =>
    show cpF ps n (itr (cpF ps) n f) = _
    rw [ih]
    funext a k
    rw [cpF_at n a k ps _ hd hn]
    unfold cpN
    by_cases hk : k = n
    · subst hk
      rw [if_pos rfl, if_neg (Nat.lt_irrefl k), if_pos (Nat.lt_succ_self k)]
    · rw [if_neg hk]
      by_cases h : k < n
      · rw [if_pos h, if_pos (by omega)]
      · rw [if_neg h, if_neg (by omega)]
