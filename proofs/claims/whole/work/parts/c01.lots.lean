/-! LOTS: numbers -/
theorem frB_t {g : Nat → Int32} {nc : Nat} {p : Int32} : frB g nc p = true ↔ ¬ p = -1 ∧ ∀ i, i < nc → ¬ g i = p := by
  unfold frB frF
  rw [itr_and (fun i => !decide (g i = p))]
  simp
/-- a loop over pairs -/
theorem itr_pair {σ : Type} (F : Nat → Nat → σ → σ) {n : Nat} (hn : 0 < n) (s : σ) : ∀ m, itr (fun i s => F (i % n) (i / n) s) (n * m) s = itr (fun k s => itr (fun c s => F c k s) n s) m s
  | 0 => by rw [Nat.mul_zero, itr_z, itr_z]
  | m + 1 => by
    have key : ∀ j, j ≤ n → itr (fun i s => F (i % n) (i / n) s) (n * m + j) s = itr (fun c s => F c m s) j (itr (fun i s => F (i % n) (i / n) s) (n * m) s) := by
      intro j
      induction j with
      | zero => exact fun _ => rfl
      | succ j ih =>
        intro hj
        rw [show n * m + (j + 1) = (n * m + j) + 1 by omega, itr_s, itr_s, ih (by omega)]
        have e1 : (n * m + j) % n = j := by rw [Nat.mul_add_mod, Nat.mod_eq_of_lt (by omega)]
        have e2 : (n * m + j) / n = m := by rw [Nat.mul_add_div hn, Nat.div_eq_of_lt (by omega), Nat.add_zero]
        rw [e1, e2]
    rw [Nat.mul_succ, key n (Nat.le_refl _), itr_s, itr_pair F hn s m]
theorem itr_pair' {σ : Type} (F : Nat → Nat → σ → σ) (s : σ) (m : Nat) : itr (fun i s => F (i / 3) (i % 3) s) (3 * m) s = itr (fun c s => itr (fun k s => F c k s) 3 s) m s := itr_pair (fun a b => F b a) (by decide) s m
theorem itr_noop {σ : Type} {F : Nat → σ → σ} {m : Nat} (s : σ) : ∀ n, m ≤ n → (∀ i, m ≤ i → ∀ s, F i s = s) → itr F n s = itr F m s
  | 0, hm, _ => by rw [show m = 0 by omega]
  | n + 1, hm, h => by
    by_cases e : m = n + 1
    · rw [e]
    · rw [itr_s, h n (by omega), itr_noop s n (by omega) h]
theorem gv_id {w : Nat → Int32} {nc c k : Nat} {g : Nat → Int32} (h : ¬ (g c = -1 ∧ frB g nc (w (3 * c + k)) = true)) : gvF w nc c k g = g := by
  unfold gvF
  rw [if_neg h, upd_id]
/-- the class's offers, and what is taken -/
def Jn (nc np : Nat) (s : (Nat → Int32) × Int32) : Prop := (∀ p, p < 32 → (bt s.2 p = true ↔ ∃ c, c < nc ∧ s.1 c = nI p)) ∧ ∀ c, c < nc → orN (s.1 c) np
theorem of_gv {z : zS} {nc np c k : Nat} (hnc : nc ≤ 6) (hnp : np ≤ 6) (hk : k < 3) (hw : ∀ c, c < nc → ∀ k, k < 3 → orN (z.1 90 (3 * c + k)) np) {s : (Nat → Int32) × Int32} (hJ : Jn nc np s) : (ofF z nc np c k s).1 = (if c < nc then gvF (z.1 90) nc c k s.1 else s.1) ∧ Jn nc np (ofF z nc np c k s) := by
  unfold ofF
  by_cases hc : c < nc
  · rw [if_pos hc]
    rcases hw c hc k hk with e | ⟨p, hp, e⟩
    · have h1 : ¬ (c < nc ∧ s.1 c = -1 ∧ inB (z.1 90 (3 * c + k)) (nI np) = true ∧ s.2 >>> (z.1 90 (3 * c + k) &&& 31) &&& 1 = 0) := by
        rw [e, inB_m1]
        exact fun q => absurd q.2.2.1 (by decide)
      rw [if_neg h1, gv_id (fun q => (frB_t.mp q.2).1 e)]
      exact ⟨rfl, hJ⟩
    · have hb : inB (nI p) (nI np) = true := by rw [inB_nI (by omega) (by omega)]; exact decide_eq_true hp
      have hfree : (s.2 >>> (nI p &&& 31) &&& 1 = 0) ↔ frB s.1 nc (nI p) = true := by
        rw [bit0 (show p < 32 by omega), frB_t]
        constructor
        · intro q
          refine ⟨fun e => (nIn1 (show p < 6 by omega)).mp e, fun i hi e => ?_⟩
          have := (hJ.1 p (by omega)).mpr ⟨i, hi, e⟩
          rw [q] at this
          cases this
        · rintro ⟨-, q⟩
          cases hbb : bt s.2 p with
          | false => rfl
          | true =>
            obtain ⟨i, hi, e⟩ := (hJ.1 p (by omega)).mp hbb
            exact absurd e (q i hi)
      rw [e]
      by_cases q : s.1 c = -1 ∧ frB s.1 nc (nI p) = true
      · rw [if_pos ⟨hc, q.1, hb, hfree.mpr q.2⟩]
        refine ⟨?_, ?_, fun c' hc' => ?_⟩
        · unfold gvF
          rw [e, if_pos q]
        · intro p' hp'
          dsimp only
          rw [b_or, Bool.or_eq_true, hJ.1 p' hp', b_one (by omega) hp', decide_eq_true_iff]
          constructor
          · rintro (⟨i, hi, ei⟩ | rfl)
            · refine ⟨i, hi, ?_⟩
              unfold upd
              by_cases e2 : i = c
              · subst e2
                rw [q.1] at ei
                have := nI_pos (show p' < 2 ^ 31 by omega)
                rw [← ei] at this
                exact absurd (by decide) this
              · rw [if_neg e2]
                exact ei
            · exact ⟨c, hc, upd_s _ _ _⟩
          · rintro ⟨i, hi, ei⟩
            unfold upd at ei
            by_cases e2 : i = c
            · rw [if_pos e2, nI_eq (by omega) (by omega)] at ei
              exact Or.inr ei.symm
            · rw [if_neg e2] at ei
              exact Or.inl ⟨i, hi, ei⟩
        · dsimp only
          unfold upd
          by_cases e2 : c' = c
          · rw [if_pos e2]
            exact Or.inr ⟨p, hp, rfl⟩
          · rw [if_neg e2]
            exact hJ.2 c' hc'
      · rw [if_neg (fun x => q ⟨x.2.1, hfree.mp x.2.2.2⟩), gv_id (by rw [e]; exact q)]
        exact ⟨rfl, hJ⟩
  · rw [if_neg hc, if_neg (fun q => hc q.1)]
    exact ⟨rfl, hJ⟩
/-- what the class draws is what the reference draws -/
theorem ru_ll {z : zS} {nc np : Nat} (hnc : nc ≤ 6) (hnp : np ≤ 6) (hw : ∀ c, c < nc → ∀ k, k < 3 → orN (z.1 90 (3 * c + k)) np) : (ruZ z nc np).1 = llZ (z.1 90) nc (z.1 76 2) (z.1 77) := by
  obtain ⟨g0, hg0⟩ : ∃ g : Nat → Int32, g = itr (fun i g => upd g i (-1)) 6 (z.1 77) := ⟨_, rfl⟩
  have J0 : Jn nc np (g0, 0) := by
    have hm : ∀ c, c < nc → g0 c = -1 := fun c hc => by rw [hg0, itr_updv (fun _ => -1), if_pos (by omega)]
    refine ⟨fun p hp => ?_, fun c hc => Or.inl (hm c hc)⟩
    dsimp only
    rw [b_0]
    constructor
    · exact fun q => absurd q (by decide)
    · rintro ⟨c, hc, e⟩
      rw [hm c hc] at e
      have := nI_pos (show p < 2 ^ 31 by omega)
      rw [← e] at this
      exact absurd (by decide) this
  have key : ∀ n, n ≤ 18 → (itr (ruF z nc np) n (g0, 0)).1 = itr (fun i g => if z.1 76 2 = 0 then (if i / 3 < nc then gvF (z.1 90) nc (i / 3) (i % 3) g else g) else (if i % 6 < nc then gvF (z.1 90) nc (i % 6) (i / 6) g else g)) n g0 ∧ Jn nc np (itr (ruF z nc np) n (g0, 0)) := by
    intro n
    induction n with
    | zero => exact fun _ => ⟨rfl, J0⟩
    | succ n ih =>
      intro hn
      obtain ⟨i1, i2⟩ := ih (by omega)
      rw [itr_s, itr_s]
      rw [← i1]
      unfold ruF
      by_cases hr : z.1 76 2 = 0
      · rw [if_pos hr, if_pos hr]
        exact of_gv hnc hnp (by omega) hw i2
      · rw [if_neg hr, if_neg hr]
        exact of_gv hnc hnp (by omega) hw i2
  have e1 := (key 18 (Nat.le_refl _)).1
  unfold ruZ llZ
  rw [← hg0, e1]
  by_cases hr : z.1 76 2 = 0
  · have e2 : (fun (i : Nat) (g : Nat → Int32) => if z.1 76 2 = 0 then (if i / 3 < nc then gvF (z.1 90) nc (i / 3) (i % 3) g else g) else (if i % 6 < nc then gvF (z.1 90) nc (i % 6) (i / 6) g else g)) = fun i g => if i / 3 < nc then gvF (z.1 90) nc (i / 3) (i % 3) g else g := by
      funext i g
      rw [if_pos hr]
    rw [e2, itr_noop (m := 3 * nc) g0 18 (by omega) (fun i hi s => if_neg (by omega))]
    refine itr_congr (3 * nc) (fun i hi => ?_)
    unfold llF
    rw [if_pos (by omega), if_pos hr]
  · have e2 : (fun (i : Nat) (g : Nat → Int32) => if z.1 76 2 = 0 then (if i / 3 < nc then gvF (z.1 90) nc (i / 3) (i % 3) g else g) else (if i % 6 < nc then gvF (z.1 90) nc (i % 6) (i / 6) g else g)) = fun i g => (fun c k g => if c < nc then gvF (z.1 90) nc c k g else g) (i % 6) (i / 6) g := by
      funext i g
      rw [if_neg hr]
    have e3 : llF (z.1 90) nc (z.1 76 2) = fun i g => (fun c k g => gvF (z.1 90) nc c k g) (i % nc) (i / nc) g := by
      funext i g
      unfold llF
      rw [if_neg hr]
    rw [e2, e3, show 18 = 6 * 3 from rfl, itr_pair (fun c k g => if c < nc then gvF (z.1 90) nc c k g else g) (by decide) g0 3]
    rcases Nat.eq_zero_or_pos nc with e | e
    · subst e
      rw [Nat.mul_zero, itr_z]
      have : ∀ k (g : Nat → Int32), itr (fun c g => if c < 0 then gvF (z.1 90) 0 c k g else g) 6 g = g := fun k g => itr_noop (m := 0) g 6 (by omega) (fun i _ s => if_neg (by omega))
      have e4 : (fun k (g : Nat → Int32) => itr (fun c g => if c < 0 then gvF (z.1 90) 0 c k g else g) 6 g) = fun _ g => g := by
        funext k g
        exact this k g
      rw [e4]
      rfl
    · rw [Nat.mul_comm 3 nc, itr_pair (fun c k g => gvF (z.1 90) nc c k g) e g0 3]
      refine itr_congr 3 (fun k hk => ?_)
      rw [itr_noop (m := nc) _ 6 hnc (fun i hi s => if_neg (by omega))]
      refine itr_congr nc (fun c hc => ?_)
      rw [if_pos hc]
/-- only the wishes of children count, and only their lots -/
theorem ll_c {w w' g g' : Nat → Int32} {nc : Nat} (hnc : nc ≤ 6) {r : Int32} (hw : ∀ x, x < 3 * nc → w x = w' x) : ∀ c, c < 6 → llZ w nc r g c = llZ w' nc r g' c := by
  have h0 : ∀ c, c < 6 → itr (fun i g => upd g i (-1)) 6 g c = itr (fun i g => upd g i (-1)) 6 g' c := fun c hc => by rw [itr_updv (fun _ => -1), itr_updv (fun _ => -1), if_pos hc, if_pos hc]
  have gv : ∀ c k (a b : Nat → Int32), c < nc → k < 3 → (∀ x, x < 6 → a x = b x) → ∀ x, x < 6 → gvF w nc c k a x = gvF w' nc c k b x := fun c k a b hc hk hab x hx => by
    have ef : ∀ p, frB a nc p = frB b nc p := fun p => by
      rw [Bool.eq_iff_iff, frB_t, frB_t]
      exact ⟨fun q => ⟨q.1, fun i hi => by rw [← hab i (by omega)]; exact q.2 i hi⟩, fun q => ⟨q.1, fun i hi => by rw [hab i (by omega)]; exact q.2 i hi⟩⟩
    unfold gvF upd
    rw [hw (3 * c + k) (by omega), ef, hab c (by omega), hab x hx]
  have key : ∀ n, n ≤ 3 * nc → ∀ x, x < 6 → itr (llF w nc r) n (itr (fun i g => upd g i (-1)) 6 g) x = itr (llF w' nc r) n (itr (fun i g => upd g i (-1)) 6 g') x := by
    intro n
    induction n with
    | zero => exact fun _ => h0
    | succ n ih =>
      intro hn x hx
      rw [itr_s (llF w nc r), itr_s (llF w' nc r)]
      have el : ∀ (w a : Nat → Int32), llF w nc r n a = (if r = 0 then gvF w nc (n / 3) (n % 3) a else gvF w nc (n % nc) (n / nc) a) := fun _ _ => rfl
      rw [el, el]
      by_cases hr : r = 0
      · rw [if_pos hr, if_pos hr]
        exact gv _ _ _ _ (by omega) (by omega) (ih (by omega)) x hx
      · rw [if_neg hr, if_neg hr]
        have hn0 : 0 < nc := by omega
        exact gv _ _ _ _ (Nat.mod_lt _ hn0) (by
          have : n / nc < 3 := (Nat.div_lt_iff_lt_mul hn0).mpr (by omega)
          exact this) (ih (by omega)) x hx
  exact key (3 * nc) (Nat.le_refl _)
/-! telling one part alone -/
theorem gv_keep {w : Nat → Int32} {nc c k x : Nat} {g : Nat → Int32} (h : ¬ g x = -1) : gvF w nc c k g x = g x := by
  unfold gvF upd
  by_cases e : x = c
  · subst e
    rw [if_pos rfl, if_neg (fun q => h q.1)]
  · rw [if_neg e]
section ONE
variable {nc c T N : Nat} {ci ki : Nat → Nat} {w1 w2 g0 : Nat → Int32} {p0 : Int32}
theorem one_keep {w : Nat → Int32} {x n : Nat} (h : ¬ itr (fun i g => gvF w nc (ci i) (ki i) g) n g0 x = -1) : ∀ m, itr (fun i g => gvF w nc (ci i) (ki i) g) (n + m) g0 x = itr (fun i g => gvF w nc (ci i) (ki i) g) n g0 x
  | 0 => rfl
  | m + 1 => by
    have ih := one_keep h m
    rw [show n + (m + 1) = (n + m) + 1 by omega, itr_s, gv_keep (by rw [ih]; exact h), ih]
theorem one_pre (hT : ∀ i, i < T → ci i ≠ c ∧ ki i < 3) (hw : ∀ x, ¬ (3 * c ≤ x ∧ x < 3 * c + 3) → w1 x = w2 x) : ∀ n, n ≤ T → itr (fun i g => gvF w1 nc (ci i) (ki i) g) n g0 = itr (fun i g => gvF w2 nc (ci i) (ki i) g) n g0
  | 0, _ => rfl
  | n + 1, hn => by
    rw [itr_s, itr_s, one_pre hT hw n (by omega)]
    have := hT n (by omega)
    unfold gvF
    rw [hw (3 * ci n + ki n) (by omega)]
theorem one_c {w : Nat → Int32} (hT : ∀ i, i < T → ci i ≠ c ∧ ki i < 3) (h0 : g0 c = -1) : ∀ n, n ≤ T → itr (fun i g => gvF w nc (ci i) (ki i) g) n g0 c = -1
  | 0, _ => h0
  | n + 1, hn => by
    rw [itr_s]
    have := hT n (by omega)
    unfold gvF upd
    rw [if_neg (Ne.symm this.1)]
    have ih := one_c (w := w) hT h0 n (by omega)
    unfold gvF upd at ih
    exact ih
theorem one_free {w : Nat → Int32} (hT : ∀ i, i < T → ci i ≠ c ∧ ki i < 3) (h0 : g0 c = -1) (hp : ¬ p0 = -1) (m : Nat) (hfin : itr (fun i g => gvF w nc (ci i) (ki i) g) (T + m) g0 c = p0) : frB (itr (fun i g => gvF w nc (ci i) (ki i) g) T g0) nc p0 = true := by
  rw [frB_t]
  refine ⟨hp, fun i hi e => ?_⟩
  have hTc := one_c (nc := nc) (w := w) hT h0 T (Nat.le_refl _)
  have hic : i ≠ c := fun e2 => by
    subst e2
    rw [hTc] at e
    exact hp e.symm
  have never : ∀ m, ¬ itr (fun i g => gvF w nc (ci i) (ki i) g) (T + m) g0 c = p0 := by
    intro m
    induction m with
    | zero =>
      rw [Nat.add_zero, hTc]
      exact fun q => hp q.symm
    | succ m ih =>
      have hk := one_keep (nc := nc) (ci := ci) (ki := ki) (w := w) (g0 := g0) (x := i) (n := T) (by rw [e]; exact hp) m
      rw [show T + (m + 1) = (T + m) + 1 by omega, itr_s]
      generalize itr (fun i g => gvF w nc (ci i) (ki i) g) (T + m) g0 = g at ih hk
      rw [e] at hk
      unfold gvF upd
      by_cases e2 : c = ci (T + m)
      · rw [if_pos e2]
        by_cases q : g (ci (T + m)) = -1 ∧ frB g nc (w (3 * ci (T + m) + ki (T + m))) = true
        · rw [if_pos q]
          intro e3
          have := (frB_t.mp q.2).2 i hi
          rw [e3] at this
          exact this hk
        · rw [if_neg q, ← e2]
          exact ih
      · rw [if_neg e2]
        exact ih
  exact never m hfin
/-- who gets a part by a row gets it by telling it alone -/
theorem one_gets (hT : ∀ i, i < T → ci i ≠ c ∧ ki i < 3) (hcT : ci T = c) (hkT : ki T = 0) (hTN : T < N) (h0 : g0 c = -1) (hw : ∀ x, ¬ (3 * c ≤ x ∧ x < 3 * c + 3) → w1 x = w2 x) (hp : ¬ p0 = -1) (h2 : w2 (3 * c) = p0) (hfin : itr (fun i g => gvF w1 nc (ci i) (ki i) g) N g0 c = p0) : itr (fun i g => gvF w2 nc (ci i) (ki i) g) N g0 c = p0 := by
  have hfr := one_free (nc := nc) (w := w1) hT h0 hp (N - T) (by rw [show T + (N - T) = N by omega]; exact hfin)
  have hpre := one_pre (nc := nc) (g0 := g0) hT hw T (Nat.le_refl _)
  have hTc := one_c (nc := nc) (w := w2) hT h0 T (Nat.le_refl _)
  rw [hpre] at hfr
  have hst : itr (fun i g => gvF w2 nc (ci i) (ki i) g) (T + 1) g0 c = p0 := by
    rw [itr_s]
    generalize itr (fun i g => gvF w2 nc (ci i) (ki i) g) T g0 = g at hfr hTc
    unfold gvF
    rw [hcT, hkT, upd_s, Nat.add_zero, h2, if_pos ⟨hTc, hfr⟩]
  have := one_keep (nc := nc) (ci := ci) (ki := ki) (w := w2) (g0 := g0) (x := c) (n := T + 1) (by rw [hst]; exact hp) (N - (T + 1))
  rw [show T + 1 + (N - (T + 1)) = N by omega, hst] at this
  exact this
end ONE
theorem ll_gets {w1 w2 g : Nat → Int32} {nc c : Nat} (hnc : nc ≤ 6) (hc : c < nc) {r p0 : Int32} (hw : ∀ x, ¬ (3 * c ≤ x ∧ x < 3 * c + 3) → w1 x = w2 x) (hp : ¬ p0 = -1) (h2 : w2 (3 * c) = p0) (hfin : llZ w1 nc r g c = p0) : llZ w2 nc r g c = p0 := by
  have h0 : itr (fun i g => upd g i (-1)) 6 g c = -1 := by rw [itr_updv (fun _ => -1), if_pos (by omega)]
  unfold llZ at hfin ⊢
  generalize itr (fun i g => upd g i (-1)) 6 g = g0 at h0 hfin
  by_cases hr : r = 0
  · have e : ∀ w, llF w nc r = fun i g => gvF w nc (i / 3) (i % 3) g := fun w => by
      funext i g
      unfold llF
      rw [if_pos hr]
    rw [e] at hfin ⊢
    exact one_gets (T := 3 * c) (fun i hi => ⟨by omega, by omega⟩) (by omega) (by omega) (by omega) h0 hw hp h2 hfin
  · have e : ∀ w, llF w nc r = fun i g => gvF w nc (i % nc) (i / nc) g := fun w => by
      funext i g
      unfold llF
      rw [if_neg hr]
    rw [e] at hfin ⊢
    exact one_gets (T := c) (ci := fun i => i % nc) (ki := fun i => i / nc) (fun i hi => ⟨by show i % nc ≠ c; rw [Nat.mod_eq_of_lt (by omega)]; omega, by show i / nc < 3; rw [Nat.div_eq_of_lt (by omega)]; decide⟩) (Nat.mod_eq_of_lt hc) (Nat.div_eq_of_lt hc) (by omega) h0 hw hp h2 hfin
