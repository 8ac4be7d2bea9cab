/-! THE HEAP, as law's two objects lay it out: 140 cells; all that changes is a state: ints by place and index, longs, where Reader.text points -/
abbrev zS : Type := (Nat → Nat → Int32) × (Nat → Nat → Int64) × Nat
abbrev zSh : Type := (Nat × Nat × List Nat) ⊕ (Nat × List (Option Nat))
def zlay : List zSh := [.inr (8, [some 1, some 20, some 21, some 22, some 23, some 24, some 38, some 45, some 58, some 76]),
 .inr (7, [some 2, some 14, some 15, some 16, some 17, none, none, some 18, none, some 19, none]),
 .inr (6, [none, some 3, some 4, some 5, none, some 6, some 7, some 8, some 9, some 10, some 11, none, some 12, some 13]),
 .inl (0, 6, []),
 .inl (0, 6, []),
 .inl (0, 6, []),
 .inl (0, 6, []),
 .inl (0, 6, []),
 .inl (0, 6, []),
 .inl (0, 6, []),
 .inl (0, 6, []),
 .inl (0, 18, []),
 .inl (0, 7, []),
 .inl (0, 7, []),
 .inl (0, 6, []),
 .inl (0, 6, []),
 .inl (0, 6, []),
 .inl (0, 6, []),
 .inl (0, 240, []),
 .inl (0, 10, []),
 .inl (3, 2, [91, 110]),
 .inl (1, 2, []),
 .inr (2, [none, none]),
 .inl (0, 3, []),
 .inr (5, [some 25, some 9999, none, none, none, none, none]),
 .inr (6, [none, some 26, some 27, some 28, none, some 29, some 30, some 31, some 32, some 33, some 34, none, some 35, some 36]),
 .inl (0, 6, []),
 .inl (0, 6, []),
 .inl (0, 6, []),
 .inl (0, 6, []),
 .inl (0, 6, []),
 .inl (0, 6, []),
 .inl (0, 6, []),
 .inl (0, 6, []),
 .inl (0, 18, []),
 .inl (0, 7, []),
 .inl (0, 7, []),
 .inl (0, 0, []),
 .inr (0, [none, none, some 39, none, none, none, none, some 40, some 41, some 42, some 43, some 44]),
 .inl (0, 6, []),
 .inl (0, 36, []),
 .inl (0, 7, []),
 .inl (0, 6, []),
 .inl (0, 6, []),
 .inl (0, 6, []),
 .inr (4, [none, some 46, none, none, none, none, none, some 47, some 48, some 49, some 50, some 51, some 57]),
 .inl (0, 4, []),
 .inl (0, 4, []),
 .inl (0, 42, []),
 .inl (0, 6, []),
 .inl (1, 6, []),
 .inl (4, 5, [52, 53, 54, 55, 56]),
 .inl (0, 6, []),
 .inl (0, 6, []),
 .inl (0, 6, []),
 .inl (0, 6, []),
 .inl (0, 6, []),
 .inl (0, 7, []),
 .inr (1, [some 59, some 71, some 72, some 73, some 74, some 75]),
 .inr (6, [none, some 60, some 61, some 62, none, some 63, some 64, some 65, some 66, some 67, some 68, none, some 69, some 70]),
 .inl (0, 6, []),
 .inl (0, 6, []),
 .inl (0, 6, []),
 .inl (0, 6, []),
 .inl (0, 6, []),
 .inl (0, 6, []),
 .inl (0, 6, []),
 .inl (0, 6, []),
 .inl (0, 18, []),
 .inl (0, 7, []),
 .inl (0, 7, []),
 .inl (0, 6, []),
 .inl (0, 6, []),
 .inl (0, 6, []),
 .inl (0, 6, []),
 .inl (2, 64, []),
 .inr (3, [some 77, some 78, none, none, some 90]),
 .inl (0, 6, []),
 .inr (6, [none, some 79, some 80, some 81, none, some 82, some 83, some 84, some 85, some 86, some 87, none, some 88, some 89]),
 .inl (0, 6, []),
 .inl (0, 6, []),
 .inl (0, 6, []),
 .inl (0, 6, []),
 .inl (0, 6, []),
 .inl (0, 6, []),
 .inl (0, 6, []),
 .inl (0, 6, []),
 .inl (0, 18, []),
 .inl (0, 7, []),
 .inl (0, 7, []),
 .inl (0, 18, []),
 .inr (7, [some 92, some 104, some 105, some 106, some 107, none, none, some 108, none, some 109, none]),
 .inr (6, [none, some 93, some 94, some 95, none, some 96, some 97, some 98, some 99, some 100, some 101, none, some 102, some 103]),
 .inl (0, 6, []),
 .inl (0, 6, []),
 .inl (0, 6, []),
 .inl (0, 6, []),
 .inl (0, 6, []),
 .inl (0, 6, []),
 .inl (0, 6, []),
 .inl (0, 6, []),
 .inl (0, 18, []),
 .inl (0, 7, []),
 .inl (0, 7, []),
 .inl (0, 6, []),
 .inl (0, 6, []),
 .inl (0, 6, []),
 .inl (0, 6, []),
 .inl (0, 240, []),
 .inl (0, 10, []),
 .inr (7, [some 111, some 123, some 124, some 125, some 126, none, none, some 127, none, some 128, none]),
 .inr (6, [none, some 112, some 113, some 114, none, some 115, some 116, some 117, some 118, some 119, some 120, none, some 121, some 122]),
 .inl (0, 6, []),
 .inl (0, 6, []),
 .inl (0, 6, []),
 .inl (0, 6, []),
 .inl (0, 6, []),
 .inl (0, 6, []),
 .inl (0, 6, []),
 .inl (0, 6, []),
 .inl (0, 18, []),
 .inl (0, 7, []),
 .inl (0, 7, []),
 .inl (0, 6, []),
 .inl (0, 6, []),
 .inl (0, 6, []),
 .inl (0, 6, []),
 .inl (0, 240, []),
 .inl (0, 10, []),
 .inr (9, [some 130, some 131, some 132, some 133, none, none, none, none, none, some 134, some 135, some 136, none, none, none, some 137, none, none, none, some 138, some 139, none]),
 .inl (0, 1083, []),
 .inl (1, 2, []),
 .inl (0, 3, []),
 .inl (0, 110, []),
 .inl (0, 6, []),
 .inl (0, 6, []),
 .inl (0, 6, []),
 .inl (0, 6, []),
 .inl (0, 18, []),
 .inl (0, 6, [])]
def zfld (z : zS) (o ci k : Nat) (f : Option Nat) : Value := match f with
  | some r => if r = 9999 then .ref z.2.2 else .ref r
  | none => match zTy ci k with
    | .long => .long (z.2.1 o k)
    | _ => .int (z.1 o k)
def zcell (z : zS) (o : Nat) (s : zSh) : zC := match s with
  | .inl (2, n, _) => .inl (2, n, .inr (.inl (z.2.1 o)))
  | .inl (3, n, rs) => zrow n (fun i => rs[i]?) 3
  | .inl (4, n, rs) => zrow n (fun i => rs[i]?) 4
  | .inl (t, n, _) => .inl (t, n, .inl (z.1 o))
  | .inr (ci, fs) => .inr (ci, fs.mapIdx (fun k f => zfld z o ci k f))
def HP (z : zS) : zH := zlay.mapIdx (fun o s => zcell z o s)
theorem HP_get {z : zS} {o : Nat} {s : zSh} (hs : zlay[o]? = some s) : (HP z)[o]? = some (zcell z o s) := by
  unfold HP
  rw [List.getElem?_mapIdx, hs]
  rfl
/-- the states behind a store -/
def set2 (f : Nat → Nat → Int32) (o j : Nat) (x : Int32) : Nat → Nat → Int32 := fun a k => if a = o ∧ k = j then x else f a k
def set2L (f : Nat → Nat → Int64) (o j : Nat) (x : Int64) : Nat → Nat → Int64 := fun a k => if a = o ∧ k = j then x else f a k
theorem set2_s (f : Nat → Nat → Int32) (o j : Nat) (x : Int32) : set2 f o j x o j = x := if_pos ⟨rfl, rfl⟩
theorem set2_n {f : Nat → Nat → Int32} {o j a k : Nat} {x : Int32} (h : a ≠ o ∨ k ≠ j) : set2 f o j x a k = f a k := if_neg (fun q => h.elim (fun z => z q.1) (fun z => z q.2))
theorem set2_o {f : Nat → Nat → Int32} {o j : Nat} {x : Int32} : (fun k => set2 f o j x o k) = upd (f o) j x := by
  funext k
  unfold set2 upd
  simp
theorem set2_a {f : Nat → Nat → Int32} {o j a : Nat} {x : Int32} (h : a ≠ o) : set2 f o j x a = f a := by
  funext k
  exact set2_n (Or.inl h)
theorem set2L_a {f : Nat → Nat → Int64} {o j a : Nat} {x : Int64} (h : a ≠ o) : set2L f o j x a = f a := by
  funext k
  unfold set2L
  rw [if_neg (fun q => h q.1)]
theorem set2L_s (f : Nat → Nat → Int64) (o j : Nat) (x : Int64) : set2L f o j x o j = x := if_pos ⟨rfl, rfl⟩
theorem set2L_n {f : Nat → Nat → Int64} {o j a k : Nat} {x : Int64} (h : a ≠ o ∨ k ≠ j) : set2L f o j x a k = f a k := if_neg (fun q => h.elim (fun z => z q.1) (fun z => z q.2))
theorem set2L_o {f : Nat → Nat → Int64} {o j : Nat} {x : Int64} : (fun k => set2L f o j x o k) = vp_updL (f o) j x := by
  funext k
  unfold set2L vp_updL
  simp
theorem HP_ext {h : zH} {z : zS} (hl : h.length = zlay.length) (he : ∀ (o : Nat) (s : zSh), zlay[o]? = some s → h[o]? = some (zcell z o s)) : h = HP z := by
  apply List.ext_getElem?
  intro i
  by_cases hi : i < zlay.length
  · have hs : zlay[i]? = some zlay[i] := List.getElem?_eq_getElem hi
    rw [he i _ hs, HP_get hs]
  · rw [List.getElem?_eq_none (by omega), List.getElem?_eq_none (by unfold HP; rw [List.length_mapIdx]; omega)]
theorem HP_len (z : zS) : (HP z).length = zlay.length := by
  unfold HP
  rw [List.length_mapIdx]
/-- a cell that was another state's -/
theorem HP_set {z z' : zS} {o : Nat} {s : zSh} {c : zC} (hs : zlay[o]? = some s) (hc : c = zcell z' o s) (hn : ∀ (a : Nat) (q : zSh), a ≠ o → zlay[a]? = some q → zcell z a q = zcell z' a q) : (HP z).set o c = HP z' := by
  apply HP_ext
  · rw [List.length_set, HP_len]
  · intro a q hq
    rw [List.getElem?_set]
    by_cases ha : o = a
    · subst ha
      rw [if_pos rfl, if_pos (by rw [HP_len]; exact get_lt hs), hc]
      rw [Option.some.inj (hs.symm.trans hq)]
    · rw [if_neg ha, HP_get hq, hn a q (fun e => ha e.symm) hq]
/-- arrays of ints -/
def isI (o n : Nat) : Prop := zlay[o]? = some (.inl (0, n, []))
def isZ (o n : Nat) : Prop := zlay[o]? = some (.inl (1, n, []))
def isL (o n : Nat) : Prop := zlay[o]? = some (.inl (2, n, []))
theorem HP_ri {E : zE} {z : zS} {o n : Nat} {i : Int32} {K : Int32 → Prop} (ho : isI o n) : zri E (HP z) o i K = (vp_in i n ∧ K (z.1 o i.toNatClampNeg)) := by
  have hg : zar E (HP z) o = some (.inl (0, n, .inl (z.1 o))) := by
    unfold zar
    rw [HP_get ho]
    rfl
  unfold zri
  rw [hg]
  simp only [vp_in]
  by_cases h : i < 0 ∨ n ≤ i.toNatClampNeg
  · rw [if_pos h]; simp only [h, not_true_eq_false, false_and]
  · rw [if_neg h]; simp only [h, not_false_eq_true, true_and]
theorem HP_rb {z : zS} {o n : Nat} {i : Int32} {K : Int32 → Prop} (ho : isZ o n) : zrb (HP z) o i K = (vp_in i n ∧ K (z.1 o i.toNatClampNeg)) := by
  unfold zrb
  rw [HP_get ho]
  simp only [zcell, vp_in]
  by_cases h : i < 0 ∨ n ≤ i.toNatClampNeg
  · rw [if_pos h]; simp only [h, not_true_eq_false, false_and]
  · rw [if_neg h]; simp only [h, not_false_eq_true, true_and]
theorem HP_rl {z : zS} {o n : Nat} {i : Int32} {K : Int64 → Prop} (ho : isL o n) : zrl (HP z) o i K = (vp_in i n ∧ K (z.2.1 o i.toNatClampNeg)) := by
  unfold zrl
  rw [HP_get ho]
  simp only [zcell, vp_in]
  by_cases h : i < 0 ∨ n ≤ i.toNatClampNeg
  · rw [if_pos h]; simp only [h, not_true_eq_false, false_and]
  · rw [if_neg h]; simp only [h, not_false_eq_true, true_and]
theorem HP_al {E : zE} {z : zS} {o n : Nat} {K : Int32 → Prop} (ho : isI o n) : zal E (HP z) o K = K (nI n) := by
  have hg : zar E (HP z) o = some (.inl (0, n, .inl (z.1 o))) := by
    unfold zar
    rw [HP_get ho]
    rfl
  unfold zal
  rw [hg]
  rfl
theorem zcell_1 {z z' : zS} {o : Nat} {s : zSh} (h1 : z.1 o = z'.1 o) (h2 : z.2.1 o = z'.2.1 o) (h3 : z.2.2 = z'.2.2) : zcell z o s = zcell z' o s := by
  unfold zcell
  have hf : ∀ ci k f, zfld z o ci k f = zfld z' o ci k f := by
    intro ci k f
    unfold zfld
    rw [h1, h2, h3]
  split <;> simp only [h1, h2, hf]
theorem HP_wi {z : zS} {o n : Nat} {i x : Int32} {K : zH → Prop} (ho : isI o n) : zwi (HP z) o i x K = (vp_in i n ∧ K (HP (set2 z.1 o i.toNatClampNeg x, z.2))) := by
  unfold zwi
  rw [HP_get ho]
  simp only [zcell, vp_in]
  by_cases h : i < 0 ∨ n ≤ i.toNatClampNeg
  · rw [if_pos h]; simp only [h, not_true_eq_false, false_and]
  · rw [if_neg h]; simp only [h, not_false_eq_true, true_and]
    rw [HP_set (z' := (set2 z.1 o i.toNatClampNeg x, z.2)) ho (by unfold zcell; simp only; rw [← set2_o]) (fun a q ha _ => zcell_1 (set2_a ha).symm rfl rfl)]
theorem HP_wb {z : zS} {o n : Nat} {i x : Int32} {K : zH → Prop} (ho : isZ o n) : zwb (HP z) o i x K = (vp_in i n ∧ K (HP (set2 z.1 o i.toNatClampNeg (vp_nar .boolean x), z.2))) := by
  unfold zwb
  rw [HP_get ho]
  simp only [zcell, vp_in]
  by_cases h : i < 0 ∨ n ≤ i.toNatClampNeg
  · rw [if_pos h]; simp only [h, not_true_eq_false, false_and]
  · rw [if_neg h]; simp only [h, not_false_eq_true, true_and]
    rw [HP_set (z' := (set2 z.1 o i.toNatClampNeg (vp_nar .boolean x), z.2)) ho (by unfold zcell; simp only; rw [← set2_o]) (fun a q ha _ => zcell_1 (set2_a ha).symm rfl rfl)]
theorem HP_wl {z : zS} {o n : Nat} {i : Int32} {x : Int64} {K : zH → Prop} (ho : isL o n) : zwl (HP z) o i x K = (vp_in i n ∧ K (HP (z.1, set2L z.2.1 o i.toNatClampNeg x, z.2.2))) := by
  unfold zwl
  rw [HP_get ho]
  simp only [zcell, vp_in]
  by_cases h : i < 0 ∨ n ≤ i.toNatClampNeg
  · rw [if_pos h]; simp only [h, not_true_eq_false, false_and]
  · rw [if_neg h]; simp only [h, not_false_eq_true, true_and]
    rw [HP_set (z := z) (z' := (z.1, set2L z.2.1 o i.toNatClampNeg x, z.2.2)) ho (by unfold zcell; simp only; rw [← set2L_o]) (fun a q ha _ => zcell_1 (z := z) (z' := (z.1, set2L z.2.1 o i.toNatClampNeg x, z.2.2)) rfl (set2L_a ha).symm rfl)]
/-- objects -/
theorem HP_gf {z : zS} {o ci k : Nat} {fs : List (Option Nat)} {f : Option Nat} {K : Value → Prop} (ho : zlay[o]? = some (.inr (ci, fs))) (hk : fs[k]? = some f) : zgf (HP z) o ci k K = K (zfld z o ci k f) := by
  unfold zgf
  rw [HP_get ho]
  simp only [zcell, if_true, List.getElem?_mapIdx, hk, Option.map_some]
theorem HP_vc {z : zS} {o ci : Nat} {fs : List (Option Nat)} {P : Prop} (ho : zlay[o]? = some (.inr (ci, fs))) : zvc (HP z) o ci P = P := by
  unfold zvc
  rw [HP_get ho]
  simp only [zcell, if_true]
theorem HP_pf {z z' : zS} {o ci k : Nat} {fs : List (Option Nat)} {v : Value} {K : zH → Prop} (ho : zlay[o]? = some (.inr (ci, fs))) (hk : k < fs.length) (hv : zfv (zTy ci k) v = true) (hz : ∀ (j : Nat) (f : Option Nat), fs[j]? = some f → zfld z' o ci j f = if j = k then v else zfld z o ci j f) (hn : ∀ a, a ≠ o → z.1 a = z'.1 a ∧ z.2.1 a = z'.2.1 a) (ht : ∀ (a cj : Nat) (q : zSh) , a ≠ o → zlay[a]? = some q → zcell z a q = zcell z' a q) : zpf (HP z) o ci k v K = K (HP z') := by
  unfold zpf
  rw [HP_get ho]
  simp only [zcell]
  have hc : True ∧ k < (fs.mapIdx (fun k f => zfld z o ci k f)).length ∧ zfv (zTy ci k) v = true := ⟨trivial, by rw [List.length_mapIdx]; exact hk, hv⟩
  rw [if_pos hc]
  rw [HP_set (z' := z') ho ?_ (fun a q ha hq => ht a 0 q ha hq)]
  unfold zcell
  simp only
  congr 2
  apply List.ext_getElem?
  intro j
  rw [List.getElem?_set, List.getElem?_mapIdx, List.getElem?_mapIdx, List.length_mapIdx]
  cases hj : fs[j]? with
  | none =>
    have : ¬ j < fs.length := fun q => by
      rw [List.getElem?_eq_getElem q] at hj
      cases hj
    rw [if_neg (by omega)]
    rfl
  | some f =>
    have hjl := get_lt hj
    have := hz j f hj
    by_cases e : k = j
    · subst e
      rw [if_pos rfl, if_pos hjl]
      simp only [Option.map_some, this, if_true]
    · rw [if_neg e]
      simp only [Option.map_some, this]
      rw [if_neg (fun q : j = k => e q.symm)]
/-- an int field -/
theorem HP_pi {z : zS} {o ci k : Nat} {fs : List (Option Nat)} {x : Int32} {K : zH → Prop} (ho : zlay[o]? = some (.inr (ci, fs))) (hk : fs[k]? = some none) (ht : zTy ci k = .int ∨ (zTy ci k = .boolean ∧ (x = 0 ∨ x = 1))) : zpf (HP z) o ci k (.int x) K = K (HP (set2 z.1 o k x, z.2)) := by
  refine HP_pf ho (get_lt hk) ?_ (fun j f hf => ?_) (fun a ha => ⟨(set2_a ha).symm, rfl⟩) (fun a _ q ha _ => zcell_1 (set2_a ha).symm rfl rfl)
  · rcases ht with ht | ⟨ht, hx⟩
    · rw [ht]; rfl
    · rw [ht]
      rcases hx with rfl | rfl <;> decide
  · by_cases e : j = k
    · subst e
      rw [if_pos rfl]
      rw [hk] at hf
      cases hf
      unfold zfld
      rcases ht with ht | ⟨ht, -⟩ <;> rw [ht] <;> simp only [set2_s]
    · rw [if_neg e]
      unfold zfld
      cases f with
      | some r => rfl
      | none => cases zTy ci j <;> simp only [set2_n (Or.inr e)]
/-- a long field -/
theorem HP_pj {z : zS} {o ci k : Nat} {fs : List (Option Nat)} {x : Int64} {K : zH → Prop} (ho : zlay[o]? = some (.inr (ci, fs))) (hk : fs[k]? = some none) (ht : zTy ci k = .long) : zpf (HP z) o ci k (.long x) K = K (HP (z.1, set2L z.2.1 o k x, z.2.2)) := by
  refine HP_pf ho (get_lt hk) (by rw [ht]; rfl) (fun j f hf => ?_) (fun a ha => ⟨rfl, (set2L_a ha).symm⟩) (fun a _ q ha _ => zcell_1 rfl (set2L_a ha).symm rfl)
  by_cases e : j = k
  · subst e
    rw [if_pos rfl]
    rw [hk] at hf
    cases hf
    unfold zfld
    rw [ht]
    simp only [set2L]
    simp
  · rw [if_neg e]
    unfold zfld
    cases f with
    | some r => rfl
    | none => cases zTy ci j <;> simp only [set2L_n (Or.inr e)]
/-- an object of class 8 (SchoolPlay) stands at o -/
def isO8 (o : Nat) : Prop := o < 1000 ∧ zlay[o]? = some (.inr (8, [some (o + 1), some (o + 20), some (o + 21), some (o + 22), some (o + 23), some (o + 24), some (o + 38), some (o + 45), some (o + 58), some (o + 76)]))
theorem g8 {o : Nat} (h : isO8 o) : (∀ (z : zS) (K : Value → Prop), zgf (HP z) o 8 0 K = K (.ref (o + 1))) ∧ (∀ (z : zS) (K : Value → Prop), zgf (HP z) o 8 1 K = K (.ref (o + 20))) ∧ (∀ (z : zS) (K : Value → Prop), zgf (HP z) o 8 2 K = K (.ref (o + 21))) ∧ (∀ (z : zS) (K : Value → Prop), zgf (HP z) o 8 3 K = K (.ref (o + 22))) ∧ (∀ (z : zS) (K : Value → Prop), zgf (HP z) o 8 4 K = K (.ref (o + 23))) ∧ (∀ (z : zS) (K : Value → Prop), zgf (HP z) o 8 5 K = K (.ref (o + 24))) ∧ (∀ (z : zS) (K : Value → Prop), zgf (HP z) o 8 6 K = K (.ref (o + 38))) ∧ (∀ (z : zS) (K : Value → Prop), zgf (HP z) o 8 7 K = K (.ref (o + 45))) ∧ (∀ (z : zS) (K : Value → Prop), zgf (HP z) o 8 8 K = K (.ref (o + 58))) ∧ (∀ (z : zS) (K : Value → Prop), zgf (HP z) o 8 9 K = K (.ref (o + 76))) := ⟨fun z K => by rw [HP_gf h.2 (k := 0) rfl]; show K (if o + 1 = 9999 then _ else _) = _; rw [if_neg (by have := h.1; omega)],
  fun z K => by rw [HP_gf h.2 (k := 1) rfl]; show K (if o + 20 = 9999 then _ else _) = _; rw [if_neg (by have := h.1; omega)],
  fun z K => by rw [HP_gf h.2 (k := 2) rfl]; show K (if o + 21 = 9999 then _ else _) = _; rw [if_neg (by have := h.1; omega)],
  fun z K => by rw [HP_gf h.2 (k := 3) rfl]; show K (if o + 22 = 9999 then _ else _) = _; rw [if_neg (by have := h.1; omega)],
  fun z K => by rw [HP_gf h.2 (k := 4) rfl]; show K (if o + 23 = 9999 then _ else _) = _; rw [if_neg (by have := h.1; omega)],
  fun z K => by rw [HP_gf h.2 (k := 5) rfl]; show K (if o + 24 = 9999 then _ else _) = _; rw [if_neg (by have := h.1; omega)],
  fun z K => by rw [HP_gf h.2 (k := 6) rfl]; show K (if o + 38 = 9999 then _ else _) = _; rw [if_neg (by have := h.1; omega)],
  fun z K => by rw [HP_gf h.2 (k := 7) rfl]; show K (if o + 45 = 9999 then _ else _) = _; rw [if_neg (by have := h.1; omega)],
  fun z K => by rw [HP_gf h.2 (k := 8) rfl]; show K (if o + 58 = 9999 then _ else _) = _; rw [if_neg (by have := h.1; omega)],
  fun z K => by rw [HP_gf h.2 (k := 9) rfl]; show K (if o + 76 = 9999 then _ else _) = _; rw [if_neg (by have := h.1; omega)]⟩
theorem v8 {o : Nat} (h : isO8 o) : ∀ (z : zS) (P : Prop), zvc (HP z) o 8 P = P := fun z P => HP_vc h.2
theorem o8_0 : isO8 0 := ⟨by decide, by decide +kernel⟩
/-- an object of class 7 (SchoolPlay$State) stands at o -/
def isO7 (o : Nat) : Prop := o < 1000 ∧ zlay[o]? = some (.inr (7, [some (o + 1), some (o + 13), some (o + 14), some (o + 15), some (o + 16), none, none, some (o + 17), none, some (o + 18), none]))
theorem g7 {o : Nat} (h : isO7 o) : (∀ (z : zS) (K : Value → Prop), zgf (HP z) o 7 0 K = K (.ref (o + 1))) ∧ (∀ (z : zS) (K : Value → Prop), zgf (HP z) o 7 1 K = K (.ref (o + 13))) ∧ (∀ (z : zS) (K : Value → Prop), zgf (HP z) o 7 2 K = K (.ref (o + 14))) ∧ (∀ (z : zS) (K : Value → Prop), zgf (HP z) o 7 3 K = K (.ref (o + 15))) ∧ (∀ (z : zS) (K : Value → Prop), zgf (HP z) o 7 4 K = K (.ref (o + 16))) ∧ (∀ (z : zS) (K : Value → Prop), zgf (HP z) o 7 5 K = K (.int (z.1 o 5))) ∧ (∀ (z : zS) (K : Value → Prop), zgf (HP z) o 7 6 K = K (.int (z.1 o 6))) ∧ (∀ (z : zS) (K : Value → Prop), zgf (HP z) o 7 7 K = K (.ref (o + 17))) ∧ (∀ (z : zS) (K : Value → Prop), zgf (HP z) o 7 8 K = K (.int (z.1 o 8))) ∧ (∀ (z : zS) (K : Value → Prop), zgf (HP z) o 7 9 K = K (.ref (o + 18))) ∧ (∀ (z : zS) (K : Value → Prop), zgf (HP z) o 7 10 K = K (.int (z.1 o 10))) := ⟨fun z K => by rw [HP_gf h.2 (k := 0) rfl]; show K (if o + 1 = 9999 then _ else _) = _; rw [if_neg (by have := h.1; omega)],
  fun z K => by rw [HP_gf h.2 (k := 1) rfl]; show K (if o + 13 = 9999 then _ else _) = _; rw [if_neg (by have := h.1; omega)],
  fun z K => by rw [HP_gf h.2 (k := 2) rfl]; show K (if o + 14 = 9999 then _ else _) = _; rw [if_neg (by have := h.1; omega)],
  fun z K => by rw [HP_gf h.2 (k := 3) rfl]; show K (if o + 15 = 9999 then _ else _) = _; rw [if_neg (by have := h.1; omega)],
  fun z K => by rw [HP_gf h.2 (k := 4) rfl]; show K (if o + 16 = 9999 then _ else _) = _; rw [if_neg (by have := h.1; omega)],
  fun z K => HP_gf h.2 (k := 5) rfl,
  fun z K => HP_gf h.2 (k := 6) rfl,
  fun z K => by rw [HP_gf h.2 (k := 7) rfl]; show K (if o + 17 = 9999 then _ else _) = _; rw [if_neg (by have := h.1; omega)],
  fun z K => HP_gf h.2 (k := 8) rfl,
  fun z K => by rw [HP_gf h.2 (k := 9) rfl]; show K (if o + 18 = 9999 then _ else _) = _; rw [if_neg (by have := h.1; omega)],
  fun z K => HP_gf h.2 (k := 10) rfl⟩
theorem p7 {o : Nat} (h : isO7 o) : (∀ (z : zS) (x : Int32) (K : zH → Prop), zpf (HP z) o 7 5 (.int x) K = K (HP (set2 z.1 o 5 x, z.2))) ∧ (∀ (z : zS) (x : Int32) (K : zH → Prop), zpf (HP z) o 7 6 (.int x) K = K (HP (set2 z.1 o 6 x, z.2))) ∧ (∀ (z : zS) (x : Int32) (K : zH → Prop), zpf (HP z) o 7 8 (.int x) K = K (HP (set2 z.1 o 8 x, z.2))) ∧ (∀ (z : zS) (x : Int32) (K : zH → Prop), zpf (HP z) o 7 10 (.int x) K = K (HP (set2 z.1 o 10 x, z.2))) := ⟨fun z x K => HP_pi h.2 (k := 5) rfl (Or.inl rfl),
  fun z x K => HP_pi h.2 (k := 6) rfl (Or.inl rfl),
  fun z x K => HP_pi h.2 (k := 8) rfl (Or.inl rfl),
  fun z x K => HP_pi h.2 (k := 10) rfl (Or.inl rfl)⟩
theorem v7 {o : Nat} (h : isO7 o) : ∀ (z : zS) (P : Prop), zvc (HP z) o 7 P = P := fun z P => HP_vc h.2
theorem o7_1 : isO7 1 := ⟨by decide, by decide +kernel⟩
theorem o7_91 : isO7 91 := ⟨by decide, by decide +kernel⟩
theorem o7_110 : isO7 110 := ⟨by decide, by decide +kernel⟩
/-- an object of class 6 (SchoolPlay$Script) stands at o -/
def isO6 (o : Nat) : Prop := o < 1000 ∧ zlay[o]? = some (.inr (6, [none, some (o + 1), some (o + 2), some (o + 3), none, some (o + 4), some (o + 5), some (o + 6), some (o + 7), some (o + 8), some (o + 9), none, some (o + 10), some (o + 11)]))
theorem g6 {o : Nat} (h : isO6 o) : (∀ (z : zS) (K : Value → Prop), zgf (HP z) o 6 0 K = K (.int (z.1 o 0))) ∧ (∀ (z : zS) (K : Value → Prop), zgf (HP z) o 6 1 K = K (.ref (o + 1))) ∧ (∀ (z : zS) (K : Value → Prop), zgf (HP z) o 6 2 K = K (.ref (o + 2))) ∧ (∀ (z : zS) (K : Value → Prop), zgf (HP z) o 6 3 K = K (.ref (o + 3))) ∧ (∀ (z : zS) (K : Value → Prop), zgf (HP z) o 6 4 K = K (.int (z.1 o 4))) ∧ (∀ (z : zS) (K : Value → Prop), zgf (HP z) o 6 5 K = K (.ref (o + 4))) ∧ (∀ (z : zS) (K : Value → Prop), zgf (HP z) o 6 6 K = K (.ref (o + 5))) ∧ (∀ (z : zS) (K : Value → Prop), zgf (HP z) o 6 7 K = K (.ref (o + 6))) ∧ (∀ (z : zS) (K : Value → Prop), zgf (HP z) o 6 8 K = K (.ref (o + 7))) ∧ (∀ (z : zS) (K : Value → Prop), zgf (HP z) o 6 9 K = K (.ref (o + 8))) ∧ (∀ (z : zS) (K : Value → Prop), zgf (HP z) o 6 10 K = K (.ref (o + 9))) ∧ (∀ (z : zS) (K : Value → Prop), zgf (HP z) o 6 11 K = K (.int (z.1 o 11))) ∧ (∀ (z : zS) (K : Value → Prop), zgf (HP z) o 6 12 K = K (.ref (o + 10))) ∧ (∀ (z : zS) (K : Value → Prop), zgf (HP z) o 6 13 K = K (.ref (o + 11))) := ⟨fun z K => HP_gf h.2 (k := 0) rfl,
  fun z K => by rw [HP_gf h.2 (k := 1) rfl]; show K (if o + 1 = 9999 then _ else _) = _; rw [if_neg (by have := h.1; omega)],
  fun z K => by rw [HP_gf h.2 (k := 2) rfl]; show K (if o + 2 = 9999 then _ else _) = _; rw [if_neg (by have := h.1; omega)],
  fun z K => by rw [HP_gf h.2 (k := 3) rfl]; show K (if o + 3 = 9999 then _ else _) = _; rw [if_neg (by have := h.1; omega)],
  fun z K => HP_gf h.2 (k := 4) rfl,
  fun z K => by rw [HP_gf h.2 (k := 5) rfl]; show K (if o + 4 = 9999 then _ else _) = _; rw [if_neg (by have := h.1; omega)],
  fun z K => by rw [HP_gf h.2 (k := 6) rfl]; show K (if o + 5 = 9999 then _ else _) = _; rw [if_neg (by have := h.1; omega)],
  fun z K => by rw [HP_gf h.2 (k := 7) rfl]; show K (if o + 6 = 9999 then _ else _) = _; rw [if_neg (by have := h.1; omega)],
  fun z K => by rw [HP_gf h.2 (k := 8) rfl]; show K (if o + 7 = 9999 then _ else _) = _; rw [if_neg (by have := h.1; omega)],
  fun z K => by rw [HP_gf h.2 (k := 9) rfl]; show K (if o + 8 = 9999 then _ else _) = _; rw [if_neg (by have := h.1; omega)],
  fun z K => by rw [HP_gf h.2 (k := 10) rfl]; show K (if o + 9 = 9999 then _ else _) = _; rw [if_neg (by have := h.1; omega)],
  fun z K => HP_gf h.2 (k := 11) rfl,
  fun z K => by rw [HP_gf h.2 (k := 12) rfl]; show K (if o + 10 = 9999 then _ else _) = _; rw [if_neg (by have := h.1; omega)],
  fun z K => by rw [HP_gf h.2 (k := 13) rfl]; show K (if o + 11 = 9999 then _ else _) = _; rw [if_neg (by have := h.1; omega)]⟩
theorem p6 {o : Nat} (h : isO6 o) : (∀ (z : zS) (x : Int32) (K : zH → Prop), zpf (HP z) o 6 0 (.int x) K = K (HP (set2 z.1 o 0 x, z.2))) ∧ (∀ (z : zS) (x : Int32) (K : zH → Prop), zpf (HP z) o 6 4 (.int x) K = K (HP (set2 z.1 o 4 x, z.2))) ∧ (∀ (z : zS) (x : Int32) (K : zH → Prop), zpf (HP z) o 6 11 (.int x) K = K (HP (set2 z.1 o 11 x, z.2))) := ⟨fun z x K => HP_pi h.2 (k := 0) rfl (Or.inl rfl),
  fun z x K => HP_pi h.2 (k := 4) rfl (Or.inl rfl),
  fun z x K => HP_pi h.2 (k := 11) rfl (Or.inl rfl)⟩
theorem v6 {o : Nat} (h : isO6 o) : ∀ (z : zS) (P : Prop), zvc (HP z) o 6 P = P := fun z P => HP_vc h.2
theorem o6_2 : isO6 2 := ⟨by decide, by decide +kernel⟩
theorem o6_25 : isO6 25 := ⟨by decide, by decide +kernel⟩
theorem o6_59 : isO6 59 := ⟨by decide, by decide +kernel⟩
theorem o6_78 : isO6 78 := ⟨by decide, by decide +kernel⟩
theorem o6_92 : isO6 92 := ⟨by decide, by decide +kernel⟩
theorem o6_111 : isO6 111 := ⟨by decide, by decide +kernel⟩
/-- an object of class 2 (SchoolPlay$Fraction) stands at o -/
def isO2 (o : Nat) : Prop := o < 1000 ∧ zlay[o]? = some (.inr (2, [none, none]))
theorem g2 {o : Nat} (h : isO2 o) : (∀ (z : zS) (K : Value → Prop), zgf (HP z) o 2 0 K = K (.long (z.2.1 o 0))) ∧ (∀ (z : zS) (K : Value → Prop), zgf (HP z) o 2 1 K = K (.long (z.2.1 o 1))) := ⟨fun z K => HP_gf h.2 (k := 0) rfl,
  fun z K => HP_gf h.2 (k := 1) rfl⟩
theorem p2 {o : Nat} (h : isO2 o) : (∀ (z : zS) (x : Int64) (K : zH → Prop), zpf (HP z) o 2 0 (.long x) K = K (HP (z.1, set2L z.2.1 o 0 x, z.2.2))) ∧ (∀ (z : zS) (x : Int64) (K : zH → Prop), zpf (HP z) o 2 1 (.long x) K = K (HP (z.1, set2L z.2.1 o 1 x, z.2.2))) := ⟨fun z x K => HP_pj h.2 (k := 0) rfl rfl,
  fun z x K => HP_pj h.2 (k := 1) rfl rfl⟩
theorem v2 {o : Nat} (h : isO2 o) : ∀ (z : zS) (P : Prop), zvc (HP z) o 2 P = P := fun z P => HP_vc h.2
theorem o2_22 : isO2 22 := ⟨by decide, by decide +kernel⟩
/-- an object of class 5 (SchoolPlay$Reader) stands at o -/
def isO5 (o : Nat) : Prop := o < 1000 ∧ zlay[o]? = some (.inr (5, [some (o + 1), some 9999, none, none, none, none, none]))
theorem g5 {o : Nat} (h : isO5 o) : (∀ (z : zS) (K : Value → Prop), zgf (HP z) o 5 0 K = K (.ref (o + 1))) ∧ (∀ (z : zS) (K : Value → Prop), zgf (HP z) o 5 1 K = K (.ref z.2.2)) ∧ (∀ (z : zS) (K : Value → Prop), zgf (HP z) o 5 2 K = K (.int (z.1 o 2))) ∧ (∀ (z : zS) (K : Value → Prop), zgf (HP z) o 5 3 K = K (.int (z.1 o 3))) ∧ (∀ (z : zS) (K : Value → Prop), zgf (HP z) o 5 4 K = K (.int (z.1 o 4))) ∧ (∀ (z : zS) (K : Value → Prop), zgf (HP z) o 5 5 K = K (.int (z.1 o 5))) ∧ (∀ (z : zS) (K : Value → Prop), zgf (HP z) o 5 6 K = K (.int (z.1 o 6))) := ⟨fun z K => by rw [HP_gf h.2 (k := 0) rfl]; show K (if o + 1 = 9999 then _ else _) = _; rw [if_neg (by have := h.1; omega)],
  fun z K => HP_gf h.2 (k := 1) rfl,
  fun z K => HP_gf h.2 (k := 2) rfl,
  fun z K => HP_gf h.2 (k := 3) rfl,
  fun z K => HP_gf h.2 (k := 4) rfl,
  fun z K => HP_gf h.2 (k := 5) rfl,
  fun z K => HP_gf h.2 (k := 6) rfl⟩
theorem p5 {o : Nat} (h : isO5 o) : (∀ (z : zS) (x : Int32) (K : zH → Prop), zpf (HP z) o 5 2 (.int x) K = K (HP (set2 z.1 o 2 x, z.2))) ∧ (∀ (z : zS) (x : Int32) (K : zH → Prop), zpf (HP z) o 5 3 (.int x) K = K (HP (set2 z.1 o 3 x, z.2))) ∧ (∀ (z : zS) (x : Int32) (K : zH → Prop), zpf (HP z) o 5 4 (.int x) K = K (HP (set2 z.1 o 4 x, z.2))) ∧ (∀ (z : zS) (x : Int32) (K : zH → Prop), zpf (HP z) o 5 5 (.int x) K = K (HP (set2 z.1 o 5 x, z.2))) ∧ (∀ (z : zS) (x : Int32) (K : zH → Prop), zpf (HP z) o 5 6 (.int x) K = K (HP (set2 z.1 o 6 x, z.2))) := ⟨fun z x K => HP_pi h.2 (k := 2) rfl (Or.inl rfl),
  fun z x K => HP_pi h.2 (k := 3) rfl (Or.inl rfl),
  fun z x K => HP_pi h.2 (k := 4) rfl (Or.inl rfl),
  fun z x K => HP_pi h.2 (k := 5) rfl (Or.inl rfl),
  fun z x K => HP_pi h.2 (k := 6) rfl (Or.inl rfl)⟩
theorem v5 {o : Nat} (h : isO5 o) : ∀ (z : zS) (P : Prop), zvc (HP z) o 5 P = P := fun z P => HP_vc h.2
theorem o5_24 : isO5 24 := ⟨by decide, by decide +kernel⟩
/-- an object of class 0 (SchoolPlay$CastSearch) stands at o -/
def isO0 (o : Nat) : Prop := o < 1000 ∧ zlay[o]? = some (.inr (0, [none, none, some (o + 1), none, none, none, none, some (o + 2), some (o + 3), some (o + 4), some (o + 5), some (o + 6)]))
theorem g0 {o : Nat} (h : isO0 o) : (∀ (z : zS) (K : Value → Prop), zgf (HP z) o 0 0 K = K (.int (z.1 o 0))) ∧ (∀ (z : zS) (K : Value → Prop), zgf (HP z) o 0 1 K = K (.int (z.1 o 1))) ∧ (∀ (z : zS) (K : Value → Prop), zgf (HP z) o 0 2 K = K (.ref (o + 1))) ∧ (∀ (z : zS) (K : Value → Prop), zgf (HP z) o 0 3 K = K (.int (z.1 o 3))) ∧ (∀ (z : zS) (K : Value → Prop), zgf (HP z) o 0 4 K = K (.int (z.1 o 4))) ∧ (∀ (z : zS) (K : Value → Prop), zgf (HP z) o 0 5 K = K (.int (z.1 o 5))) ∧ (∀ (z : zS) (K : Value → Prop), zgf (HP z) o 0 6 K = K (.int (z.1 o 6))) ∧ (∀ (z : zS) (K : Value → Prop), zgf (HP z) o 0 7 K = K (.ref (o + 2))) ∧ (∀ (z : zS) (K : Value → Prop), zgf (HP z) o 0 8 K = K (.ref (o + 3))) ∧ (∀ (z : zS) (K : Value → Prop), zgf (HP z) o 0 9 K = K (.ref (o + 4))) ∧ (∀ (z : zS) (K : Value → Prop), zgf (HP z) o 0 10 K = K (.ref (o + 5))) ∧ (∀ (z : zS) (K : Value → Prop), zgf (HP z) o 0 11 K = K (.ref (o + 6))) := ⟨fun z K => HP_gf h.2 (k := 0) rfl,
  fun z K => HP_gf h.2 (k := 1) rfl,
  fun z K => by rw [HP_gf h.2 (k := 2) rfl]; show K (if o + 1 = 9999 then _ else _) = _; rw [if_neg (by have := h.1; omega)],
  fun z K => HP_gf h.2 (k := 3) rfl,
  fun z K => HP_gf h.2 (k := 4) rfl,
  fun z K => HP_gf h.2 (k := 5) rfl,
  fun z K => HP_gf h.2 (k := 6) rfl,
  fun z K => by rw [HP_gf h.2 (k := 7) rfl]; show K (if o + 2 = 9999 then _ else _) = _; rw [if_neg (by have := h.1; omega)],
  fun z K => by rw [HP_gf h.2 (k := 8) rfl]; show K (if o + 3 = 9999 then _ else _) = _; rw [if_neg (by have := h.1; omega)],
  fun z K => by rw [HP_gf h.2 (k := 9) rfl]; show K (if o + 4 = 9999 then _ else _) = _; rw [if_neg (by have := h.1; omega)],
  fun z K => by rw [HP_gf h.2 (k := 10) rfl]; show K (if o + 5 = 9999 then _ else _) = _; rw [if_neg (by have := h.1; omega)],
  fun z K => by rw [HP_gf h.2 (k := 11) rfl]; show K (if o + 6 = 9999 then _ else _) = _; rw [if_neg (by have := h.1; omega)]⟩
theorem p0 {o : Nat} (h : isO0 o) : (∀ (z : zS) (K : zH → Prop), zpf (HP z) o 0 0 (.int 0) K = K (HP (set2 z.1 o 0 0, z.2))) ∧ (∀ (z : zS) (K : zH → Prop), zpf (HP z) o 0 0 (.int 1) K = K (HP (set2 z.1 o 0 1, z.2))) ∧ (∀ (z : zS) (x : Int32) (K : zH → Prop), zpf (HP z) o 0 1 (.int x) K = K (HP (set2 z.1 o 1 x, z.2))) ∧ (∀ (z : zS) (x : Int32) (K : zH → Prop), zpf (HP z) o 0 3 (.int x) K = K (HP (set2 z.1 o 3 x, z.2))) ∧ (∀ (z : zS) (x : Int32) (K : zH → Prop), zpf (HP z) o 0 4 (.int x) K = K (HP (set2 z.1 o 4 x, z.2))) ∧ (∀ (z : zS) (x : Int32) (K : zH → Prop), zpf (HP z) o 0 5 (.int x) K = K (HP (set2 z.1 o 5 x, z.2))) ∧ (∀ (z : zS) (x : Int32) (K : zH → Prop), zpf (HP z) o 0 6 (.int x) K = K (HP (set2 z.1 o 6 x, z.2))) := ⟨fun z K => HP_pi h.2 (k := 0) rfl (Or.inr ⟨rfl, Or.inl rfl⟩),
  fun z K => HP_pi h.2 (k := 0) rfl (Or.inr ⟨rfl, Or.inr rfl⟩),
  fun z x K => HP_pi h.2 (k := 1) rfl (Or.inl rfl),
  fun z x K => HP_pi h.2 (k := 3) rfl (Or.inl rfl),
  fun z x K => HP_pi h.2 (k := 4) rfl (Or.inl rfl),
  fun z x K => HP_pi h.2 (k := 5) rfl (Or.inl rfl),
  fun z x K => HP_pi h.2 (k := 6) rfl (Or.inl rfl)⟩
theorem v0 {o : Nat} (h : isO0 o) : ∀ (z : zS) (P : Prop), zvc (HP z) o 0 P = P := fun z P => HP_vc h.2
theorem o0_38 : isO0 38 := ⟨by decide, by decide +kernel⟩
/-- an object of class 4 (SchoolPlay$PlanSearch) stands at o -/
def isO4 (o : Nat) : Prop := o < 1000 ∧ zlay[o]? = some (.inr (4, [none, some (o + 1), none, none, none, none, none, some (o + 2), some (o + 3), some (o + 4), some (o + 5), some (o + 6), some (o + 12)]))
theorem g4 {o : Nat} (h : isO4 o) : (∀ (z : zS) (K : Value → Prop), zgf (HP z) o 4 0 K = K (.int (z.1 o 0))) ∧ (∀ (z : zS) (K : Value → Prop), zgf (HP z) o 4 1 K = K (.ref (o + 1))) ∧ (∀ (z : zS) (K : Value → Prop), zgf (HP z) o 4 2 K = K (.int (z.1 o 2))) ∧ (∀ (z : zS) (K : Value → Prop), zgf (HP z) o 4 3 K = K (.int (z.1 o 3))) ∧ (∀ (z : zS) (K : Value → Prop), zgf (HP z) o 4 4 K = K (.int (z.1 o 4))) ∧ (∀ (z : zS) (K : Value → Prop), zgf (HP z) o 4 5 K = K (.int (z.1 o 5))) ∧ (∀ (z : zS) (K : Value → Prop), zgf (HP z) o 4 6 K = K (.int (z.1 o 6))) ∧ (∀ (z : zS) (K : Value → Prop), zgf (HP z) o 4 7 K = K (.ref (o + 2))) ∧ (∀ (z : zS) (K : Value → Prop), zgf (HP z) o 4 8 K = K (.ref (o + 3))) ∧ (∀ (z : zS) (K : Value → Prop), zgf (HP z) o 4 9 K = K (.ref (o + 4))) ∧ (∀ (z : zS) (K : Value → Prop), zgf (HP z) o 4 10 K = K (.ref (o + 5))) ∧ (∀ (z : zS) (K : Value → Prop), zgf (HP z) o 4 11 K = K (.ref (o + 6))) ∧ (∀ (z : zS) (K : Value → Prop), zgf (HP z) o 4 12 K = K (.ref (o + 12))) := ⟨fun z K => HP_gf h.2 (k := 0) rfl,
  fun z K => by rw [HP_gf h.2 (k := 1) rfl]; show K (if o + 1 = 9999 then _ else _) = _; rw [if_neg (by have := h.1; omega)],
  fun z K => HP_gf h.2 (k := 2) rfl,
  fun z K => HP_gf h.2 (k := 3) rfl,
  fun z K => HP_gf h.2 (k := 4) rfl,
  fun z K => HP_gf h.2 (k := 5) rfl,
  fun z K => HP_gf h.2 (k := 6) rfl,
  fun z K => by rw [HP_gf h.2 (k := 7) rfl]; show K (if o + 2 = 9999 then _ else _) = _; rw [if_neg (by have := h.1; omega)],
  fun z K => by rw [HP_gf h.2 (k := 8) rfl]; show K (if o + 3 = 9999 then _ else _) = _; rw [if_neg (by have := h.1; omega)],
  fun z K => by rw [HP_gf h.2 (k := 9) rfl]; show K (if o + 4 = 9999 then _ else _) = _; rw [if_neg (by have := h.1; omega)],
  fun z K => by rw [HP_gf h.2 (k := 10) rfl]; show K (if o + 5 = 9999 then _ else _) = _; rw [if_neg (by have := h.1; omega)],
  fun z K => by rw [HP_gf h.2 (k := 11) rfl]; show K (if o + 6 = 9999 then _ else _) = _; rw [if_neg (by have := h.1; omega)],
  fun z K => by rw [HP_gf h.2 (k := 12) rfl]; show K (if o + 12 = 9999 then _ else _) = _; rw [if_neg (by have := h.1; omega)]⟩
theorem p4 {o : Nat} (h : isO4 o) : (∀ (z : zS) (x : Int32) (K : zH → Prop), zpf (HP z) o 4 0 (.int x) K = K (HP (set2 z.1 o 0 x, z.2))) ∧ (∀ (z : zS) (x : Int32) (K : zH → Prop), zpf (HP z) o 4 2 (.int x) K = K (HP (set2 z.1 o 2 x, z.2))) ∧ (∀ (z : zS) (K : zH → Prop), zpf (HP z) o 4 3 (.int 0) K = K (HP (set2 z.1 o 3 0, z.2))) ∧ (∀ (z : zS) (K : zH → Prop), zpf (HP z) o 4 3 (.int 1) K = K (HP (set2 z.1 o 3 1, z.2))) ∧ (∀ (z : zS) (x : Int32) (K : zH → Prop), zpf (HP z) o 4 4 (.int x) K = K (HP (set2 z.1 o 4 x, z.2))) ∧ (∀ (z : zS) (x : Int32) (K : zH → Prop), zpf (HP z) o 4 5 (.int x) K = K (HP (set2 z.1 o 5 x, z.2))) ∧ (∀ (z : zS) (x : Int32) (K : zH → Prop), zpf (HP z) o 4 6 (.int x) K = K (HP (set2 z.1 o 6 x, z.2))) := ⟨fun z x K => HP_pi h.2 (k := 0) rfl (Or.inl rfl),
  fun z x K => HP_pi h.2 (k := 2) rfl (Or.inl rfl),
  fun z K => HP_pi h.2 (k := 3) rfl (Or.inr ⟨rfl, Or.inl rfl⟩),
  fun z K => HP_pi h.2 (k := 3) rfl (Or.inr ⟨rfl, Or.inr rfl⟩),
  fun z x K => HP_pi h.2 (k := 4) rfl (Or.inl rfl),
  fun z x K => HP_pi h.2 (k := 5) rfl (Or.inl rfl),
  fun z x K => HP_pi h.2 (k := 6) rfl (Or.inl rfl)⟩
theorem v4 {o : Nat} (h : isO4 o) : ∀ (z : zS) (P : Prop), zvc (HP z) o 4 P = P := fun z P => HP_vc h.2
theorem o4_45 : isO4 45 := ⟨by decide, by decide +kernel⟩
/-- an object of class 1 (SchoolPlay$Chances) stands at o -/
def isO1 (o : Nat) : Prop := o < 1000 ∧ zlay[o]? = some (.inr (1, [some (o + 1), some (o + 13), some (o + 14), some (o + 15), some (o + 16), some (o + 17)]))
theorem g1 {o : Nat} (h : isO1 o) : (∀ (z : zS) (K : Value → Prop), zgf (HP z) o 1 0 K = K (.ref (o + 1))) ∧ (∀ (z : zS) (K : Value → Prop), zgf (HP z) o 1 1 K = K (.ref (o + 13))) ∧ (∀ (z : zS) (K : Value → Prop), zgf (HP z) o 1 2 K = K (.ref (o + 14))) ∧ (∀ (z : zS) (K : Value → Prop), zgf (HP z) o 1 3 K = K (.ref (o + 15))) ∧ (∀ (z : zS) (K : Value → Prop), zgf (HP z) o 1 4 K = K (.ref (o + 16))) ∧ (∀ (z : zS) (K : Value → Prop), zgf (HP z) o 1 5 K = K (.ref (o + 17))) := ⟨fun z K => by rw [HP_gf h.2 (k := 0) rfl]; show K (if o + 1 = 9999 then _ else _) = _; rw [if_neg (by have := h.1; omega)],
  fun z K => by rw [HP_gf h.2 (k := 1) rfl]; show K (if o + 13 = 9999 then _ else _) = _; rw [if_neg (by have := h.1; omega)],
  fun z K => by rw [HP_gf h.2 (k := 2) rfl]; show K (if o + 14 = 9999 then _ else _) = _; rw [if_neg (by have := h.1; omega)],
  fun z K => by rw [HP_gf h.2 (k := 3) rfl]; show K (if o + 15 = 9999 then _ else _) = _; rw [if_neg (by have := h.1; omega)],
  fun z K => by rw [HP_gf h.2 (k := 4) rfl]; show K (if o + 16 = 9999 then _ else _) = _; rw [if_neg (by have := h.1; omega)],
  fun z K => by rw [HP_gf h.2 (k := 5) rfl]; show K (if o + 17 = 9999 then _ else _) = _; rw [if_neg (by have := h.1; omega)]⟩
theorem v1 {o : Nat} (h : isO1 o) : ∀ (z : zS) (P : Prop), zvc (HP z) o 1 P = P := fun z P => HP_vc h.2
theorem o1_58 : isO1 58 := ⟨by decide, by decide +kernel⟩
/-- an object of class 3 (SchoolPlay$LotDraw) stands at o -/
def isO3 (o : Nat) : Prop := o < 1000 ∧ zlay[o]? = some (.inr (3, [some (o + 1), some (o + 2), none, none, some (o + 14)]))
theorem g3 {o : Nat} (h : isO3 o) : (∀ (z : zS) (K : Value → Prop), zgf (HP z) o 3 0 K = K (.ref (o + 1))) ∧ (∀ (z : zS) (K : Value → Prop), zgf (HP z) o 3 1 K = K (.ref (o + 2))) ∧ (∀ (z : zS) (K : Value → Prop), zgf (HP z) o 3 2 K = K (.int (z.1 o 2))) ∧ (∀ (z : zS) (K : Value → Prop), zgf (HP z) o 3 3 K = K (.int (z.1 o 3))) ∧ (∀ (z : zS) (K : Value → Prop), zgf (HP z) o 3 4 K = K (.ref (o + 14))) := ⟨fun z K => by rw [HP_gf h.2 (k := 0) rfl]; show K (if o + 1 = 9999 then _ else _) = _; rw [if_neg (by have := h.1; omega)],
  fun z K => by rw [HP_gf h.2 (k := 1) rfl]; show K (if o + 2 = 9999 then _ else _) = _; rw [if_neg (by have := h.1; omega)],
  fun z K => HP_gf h.2 (k := 2) rfl,
  fun z K => HP_gf h.2 (k := 3) rfl,
  fun z K => by rw [HP_gf h.2 (k := 4) rfl]; show K (if o + 14 = 9999 then _ else _) = _; rw [if_neg (by have := h.1; omega)]⟩
theorem p3 {o : Nat} (h : isO3 o) : (∀ (z : zS) (x : Int32) (K : zH → Prop), zpf (HP z) o 3 2 (.int x) K = K (HP (set2 z.1 o 2 x, z.2))) ∧ (∀ (z : zS) (x : Int32) (K : zH → Prop), zpf (HP z) o 3 3 (.int x) K = K (HP (set2 z.1 o 3 x, z.2))) := ⟨fun z x K => HP_pi h.2 (k := 2) rfl (Or.inl rfl),
  fun z x K => HP_pi h.2 (k := 3) rfl (Or.inl rfl)⟩
theorem v3 {o : Nat} (h : isO3 o) : ∀ (z : zS) (P : Prop), zvc (HP z) o 3 P = P := fun z P => HP_vc h.2
theorem o3_76 : isO3 76 := ⟨by decide, by decide +kernel⟩
/-- an object of class 9 (SchoolPlayModel) stands at o -/
def isO9 (o : Nat) : Prop := o < 1000 ∧ zlay[o]? = some (.inr (9, [some (o + 1), some (o + 2), some (o + 3), some (o + 4), none, none, none, none, none, some (o + 5), some (o + 6), some (o + 7), none, none, none, some (o + 8), none, none, none, some (o + 9), some (o + 10), none]))
theorem g9 {o : Nat} (h : isO9 o) : (∀ (z : zS) (K : Value → Prop), zgf (HP z) o 9 0 K = K (.ref (o + 1))) ∧ (∀ (z : zS) (K : Value → Prop), zgf (HP z) o 9 1 K = K (.ref (o + 2))) ∧ (∀ (z : zS) (K : Value → Prop), zgf (HP z) o 9 2 K = K (.ref (o + 3))) ∧ (∀ (z : zS) (K : Value → Prop), zgf (HP z) o 9 3 K = K (.ref (o + 4))) ∧ (∀ (z : zS) (K : Value → Prop), zgf (HP z) o 9 4 K = K (.int (z.1 o 4))) ∧ (∀ (z : zS) (K : Value → Prop), zgf (HP z) o 9 5 K = K (.int (z.1 o 5))) ∧ (∀ (z : zS) (K : Value → Prop), zgf (HP z) o 9 6 K = K (.int (z.1 o 6))) ∧ (∀ (z : zS) (K : Value → Prop), zgf (HP z) o 9 7 K = K (.int (z.1 o 7))) ∧ (∀ (z : zS) (K : Value → Prop), zgf (HP z) o 9 8 K = K (.int (z.1 o 8))) ∧ (∀ (z : zS) (K : Value → Prop), zgf (HP z) o 9 9 K = K (.ref (o + 5))) ∧ (∀ (z : zS) (K : Value → Prop), zgf (HP z) o 9 10 K = K (.ref (o + 6))) ∧ (∀ (z : zS) (K : Value → Prop), zgf (HP z) o 9 11 K = K (.ref (o + 7))) ∧ (∀ (z : zS) (K : Value → Prop), zgf (HP z) o 9 12 K = K (.int (z.1 o 12))) ∧ (∀ (z : zS) (K : Value → Prop), zgf (HP z) o 9 13 K = K (.int (z.1 o 13))) ∧ (∀ (z : zS) (K : Value → Prop), zgf (HP z) o 9 14 K = K (.int (z.1 o 14))) ∧ (∀ (z : zS) (K : Value → Prop), zgf (HP z) o 9 15 K = K (.ref (o + 8))) ∧ (∀ (z : zS) (K : Value → Prop), zgf (HP z) o 9 16 K = K (.int (z.1 o 16))) ∧ (∀ (z : zS) (K : Value → Prop), zgf (HP z) o 9 17 K = K (.long (z.2.1 o 17))) ∧ (∀ (z : zS) (K : Value → Prop), zgf (HP z) o 9 18 K = K (.long (z.2.1 o 18))) ∧ (∀ (z : zS) (K : Value → Prop), zgf (HP z) o 9 19 K = K (.ref (o + 9))) ∧ (∀ (z : zS) (K : Value → Prop), zgf (HP z) o 9 20 K = K (.ref (o + 10))) ∧ (∀ (z : zS) (K : Value → Prop), zgf (HP z) o 9 21 K = K (.long (z.2.1 o 21))) := ⟨fun z K => by rw [HP_gf h.2 (k := 0) rfl]; show K (if o + 1 = 9999 then _ else _) = _; rw [if_neg (by have := h.1; omega)],
  fun z K => by rw [HP_gf h.2 (k := 1) rfl]; show K (if o + 2 = 9999 then _ else _) = _; rw [if_neg (by have := h.1; omega)],
  fun z K => by rw [HP_gf h.2 (k := 2) rfl]; show K (if o + 3 = 9999 then _ else _) = _; rw [if_neg (by have := h.1; omega)],
  fun z K => by rw [HP_gf h.2 (k := 3) rfl]; show K (if o + 4 = 9999 then _ else _) = _; rw [if_neg (by have := h.1; omega)],
  fun z K => HP_gf h.2 (k := 4) rfl,
  fun z K => HP_gf h.2 (k := 5) rfl,
  fun z K => HP_gf h.2 (k := 6) rfl,
  fun z K => HP_gf h.2 (k := 7) rfl,
  fun z K => HP_gf h.2 (k := 8) rfl,
  fun z K => by rw [HP_gf h.2 (k := 9) rfl]; show K (if o + 5 = 9999 then _ else _) = _; rw [if_neg (by have := h.1; omega)],
  fun z K => by rw [HP_gf h.2 (k := 10) rfl]; show K (if o + 6 = 9999 then _ else _) = _; rw [if_neg (by have := h.1; omega)],
  fun z K => by rw [HP_gf h.2 (k := 11) rfl]; show K (if o + 7 = 9999 then _ else _) = _; rw [if_neg (by have := h.1; omega)],
  fun z K => HP_gf h.2 (k := 12) rfl,
  fun z K => HP_gf h.2 (k := 13) rfl,
  fun z K => HP_gf h.2 (k := 14) rfl,
  fun z K => by rw [HP_gf h.2 (k := 15) rfl]; show K (if o + 8 = 9999 then _ else _) = _; rw [if_neg (by have := h.1; omega)],
  fun z K => HP_gf h.2 (k := 16) rfl,
  fun z K => HP_gf h.2 (k := 17) rfl,
  fun z K => HP_gf h.2 (k := 18) rfl,
  fun z K => by rw [HP_gf h.2 (k := 19) rfl]; show K (if o + 9 = 9999 then _ else _) = _; rw [if_neg (by have := h.1; omega)],
  fun z K => by rw [HP_gf h.2 (k := 20) rfl]; show K (if o + 10 = 9999 then _ else _) = _; rw [if_neg (by have := h.1; omega)],
  fun z K => HP_gf h.2 (k := 21) rfl⟩
theorem p9 {o : Nat} (h : isO9 o) : (∀ (z : zS) (x : Int32) (K : zH → Prop), zpf (HP z) o 9 4 (.int x) K = K (HP (set2 z.1 o 4 x, z.2))) ∧ (∀ (z : zS) (x : Int32) (K : zH → Prop), zpf (HP z) o 9 5 (.int x) K = K (HP (set2 z.1 o 5 x, z.2))) ∧ (∀ (z : zS) (x : Int32) (K : zH → Prop), zpf (HP z) o 9 6 (.int x) K = K (HP (set2 z.1 o 6 x, z.2))) ∧ (∀ (z : zS) (x : Int32) (K : zH → Prop), zpf (HP z) o 9 7 (.int x) K = K (HP (set2 z.1 o 7 x, z.2))) ∧ (∀ (z : zS) (x : Int32) (K : zH → Prop), zpf (HP z) o 9 8 (.int x) K = K (HP (set2 z.1 o 8 x, z.2))) ∧ (∀ (z : zS) (x : Int32) (K : zH → Prop), zpf (HP z) o 9 12 (.int x) K = K (HP (set2 z.1 o 12 x, z.2))) ∧ (∀ (z : zS) (x : Int32) (K : zH → Prop), zpf (HP z) o 9 13 (.int x) K = K (HP (set2 z.1 o 13 x, z.2))) ∧ (∀ (z : zS) (K : zH → Prop), zpf (HP z) o 9 14 (.int 0) K = K (HP (set2 z.1 o 14 0, z.2))) ∧ (∀ (z : zS) (K : zH → Prop), zpf (HP z) o 9 14 (.int 1) K = K (HP (set2 z.1 o 14 1, z.2))) ∧ (∀ (z : zS) (x : Int32) (K : zH → Prop), zpf (HP z) o 9 16 (.int x) K = K (HP (set2 z.1 o 16 x, z.2))) ∧ (∀ (z : zS) (x : Int64) (K : zH → Prop), zpf (HP z) o 9 17 (.long x) K = K (HP (z.1, set2L z.2.1 o 17 x, z.2.2))) ∧ (∀ (z : zS) (x : Int64) (K : zH → Prop), zpf (HP z) o 9 18 (.long x) K = K (HP (z.1, set2L z.2.1 o 18 x, z.2.2))) ∧ (∀ (z : zS) (x : Int64) (K : zH → Prop), zpf (HP z) o 9 21 (.long x) K = K (HP (z.1, set2L z.2.1 o 21 x, z.2.2))) := ⟨fun z x K => HP_pi h.2 (k := 4) rfl (Or.inl rfl),
  fun z x K => HP_pi h.2 (k := 5) rfl (Or.inl rfl),
  fun z x K => HP_pi h.2 (k := 6) rfl (Or.inl rfl),
  fun z x K => HP_pi h.2 (k := 7) rfl (Or.inl rfl),
  fun z x K => HP_pi h.2 (k := 8) rfl (Or.inl rfl),
  fun z x K => HP_pi h.2 (k := 12) rfl (Or.inl rfl),
  fun z x K => HP_pi h.2 (k := 13) rfl (Or.inl rfl),
  fun z K => HP_pi h.2 (k := 14) rfl (Or.inr ⟨rfl, Or.inl rfl⟩),
  fun z K => HP_pi h.2 (k := 14) rfl (Or.inr ⟨rfl, Or.inr rfl⟩),
  fun z x K => HP_pi h.2 (k := 16) rfl (Or.inl rfl),
  fun z x K => HP_pj h.2 (k := 17) rfl rfl,
  fun z x K => HP_pj h.2 (k := 18) rfl rfl,
  fun z x K => HP_pj h.2 (k := 21) rfl rfl⟩
theorem v9 {o : Nat} (h : isO9 o) : ∀ (z : zS) (P : Prop), zvc (HP z) o 9 P = P := fun z P => HP_vc h.2
theorem o9_129 : isO9 129 := ⟨by decide, by decide +kernel⟩
