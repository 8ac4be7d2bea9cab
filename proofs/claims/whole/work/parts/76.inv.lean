/-! what the two objects have in common, between calls -/
/-- an int between two numbers -/
def rg (x : Int32) (a b : Nat) : Prop := ∃ n, a ≤ n ∧ n ≤ b ∧ x = nI n
/-- nobody, or one of n -/
def orN (x : Int32) (n : Nat) : Prop := x = -1 ∨ ∃ j, j < n ∧ x = nI j
def rP (A : Nat → Nat → Int32) (s : Nat → Int32) (nc p : Nat) : Prop := A 2 p = s (3 * p) ∧ A 3 p = s (3 * p + 1) ∧ A 4 p = s (3 * p + 2) ∧ A 13 p = s (18 + p) ∧ A 14 p = s (24 + p) ∧ A 15 p = s (30 + p) ∧ rg (s (3 * p)) 0 6 ∧ rg (s (3 * p + 1)) 0 60 ∧ rg (s (3 * p + 2)) 0 9 ∧ orN (s (18 + p)) nc ∧ orN (s (24 + p)) nc ∧ rg (s (30 + p)) 0 100
def rC (A : Nat → Nat → Int32) (s : Nat → Int32) (np c : Nat) : Prop := A 5 c = s (36 + 5 * c + 0) ∧ A 6 c = s (36 + 5 * c + 1) ∧ A 7 c = s (36 + 5 * c + 2) ∧ A 8 c = s (36 + 5 * c + 3) ∧ A 9 c = s (36 + 5 * c + 4) ∧ A 10 (3 * c) = s (66 + 3 * c) ∧ A 10 (3 * c + 1) = s (66 + 3 * c + 1) ∧ A 10 (3 * c + 2) = s (66 + 3 * c + 2) ∧ A 16 c = s (84 + c) ∧ rg (s (36 + 5 * c + 0)) 1 9 ∧ rg (s (36 + 5 * c + 1)) 0 9 ∧ rg (s (36 + 5 * c + 2)) 0 9 ∧ rg (s (36 + 5 * c + 3)) 0 9 ∧ rg (s (36 + 5 * c + 4)) 0 19 ∧ orN (s (66 + 3 * c)) np ∧ orN (s (66 + 3 * c + 1)) np ∧ orN (s (66 + 3 * c + 2)) np
def rN (A : Nat → Nat → Int32) (s : Nat → Int32) (i : Nat) : Prop := A 11 i = s (90 + 2 * i) ∧ A 12 i = s (90 + 2 * i + 1) ∧ rg (s (90 + 2 * i)) 1 20 ∧ rg (s (90 + 2 * i + 1)) 0 63
def rB (A : Nat → Nat → Int32) (s : Nat → Int32) (i : Nat) : Prop := A 17 i = s (121 + i) ∧ rg (s (121 + i)) 0 255
def rY (A : Nat → Nat → Int32) (s : Nat → Int32) (i : Nat) : Prop := A 18 i = s (110 + i) ∧ rg (s (110 + i)) 0 1
def rF (A : Nat → Nat → Int32) (s : Nat → Int32) (np nc ns nl ny ch ea : Nat) : Prop := (A 1 0 = nI np ∧ A 1 4 = nI nc ∧ A 1 11 = nI ns ∧ A 0 5 = nI ch ∧ A 0 6 = nI ea ∧ A 0 8 = nI nl ∧ A 0 10 = nI ny) ∧ (s 104 = nI np ∧ s 105 = nI nc ∧ s 106 = nI ns ∧ s 107 = nI ch ∧ s 108 = nI ea ∧ s 120 = nI nl ∧ s 109 = nI ny) ∧ np ≤ 6 ∧ nc ≤ 6 ∧ ns ≤ 7 ∧ ch ≤ 3 ∧ ea ≤ 1 ∧ nl ≤ 240 ∧ ny ≤ 10
def RTv (A : Nat → Nat → Int32) (s : Nat → Int32) (np nc ns nl ny ch ea : Nat) : Prop := rF A s np nc ns nl ny ch ea ∧ (∀ p, p < np → rP A s nc p) ∧ (∀ c, c < nc → rC A s np c) ∧ (∀ i, i < ns → rN A s i) ∧ (∀ i, i < nl → rB A s i) ∧ (∀ i, i < ny → rY A s i)
/-- the State at o and the reference's rows from b on -/
def RT (f : Nat → Nat → Int32) (o b np nc ns nl ny ch ea : Nat) : Prop := RTv (fun j => f (j + o)) (fun k => f 130 (k + b)) np nc ns nl ny ch ea
def RTx (f : Nat → Nat → Int32) (o b : Nat) : Prop := ∃ np nc ns nl ny ch ea, RT f o b np nc ns nl ny ch ea
def Img (z : zS) (i o b : Nat) : Prop := z.1 21 i = z.1 131 i ∧ (z.1 21 i = 0 ∨ z.1 21 i = 1 ∧ RTx z.1 o b)
def Frc (z : zS) (a b : Nat) : Prop := a < 2 ^ 40 ∧ b < 2 ^ 40 ∧ z.2.1 22 0 = lN a ∧ z.2.1 22 1 = lN b ∧ z.2.1 129 17 = lN a ∧ z.2.1 129 18 = lN b
def Rst (z : zS) : Prop := Img z 0 91 361 ∧ Img z 1 110 722 ∧ (∀ k, k < 3 → z.1 23 k = z.1 132 k) ∧ ∃ a b, Frc z a b
def Inv (z : zS) : Prop := RTx z.1 1 0 ∧ Rst z
/-- the places of a State that count -/
def okI (j i : Nat) : Prop := (j = 0 ∧ (i = 5 ∨ i = 6 ∨ i = 8 ∨ i = 10)) ∨ (j = 1 ∧ (i = 0 ∨ i = 4 ∨ i = 11)) ∨ (2 ≤ j ∧ j ≤ 9 ∧ i < 6) ∨ (j = 10 ∧ i < 18) ∨ (11 ≤ j ∧ j ≤ 12 ∧ i < 7) ∨ (13 ≤ j ∧ j ≤ 16 ∧ i < 6) ∨ (j = 17 ∧ i < 240) ∨ (j = 18 ∧ i < 10)
theorem RTv_c {A A' : Nat → Nat → Int32} {s s' : Nat → Int32} {np nc ns nl ny ch ea : Nat} (hA : ∀ j i, okI j i → A' j i = A j i) (hs : ∀ k, k < 361 → s' k = s k) (h : RTv A s np nc ns nl ny ch ea) : RTv A' s' np nc ns nl ny ch ea := by
  obtain ⟨hF, hP, hC, hN, hB, hY⟩ := h
  have hF' := hF
  obtain ⟨-, -, n1, n2, n3, n4, n5, n6, n7⟩ := hF
  refine ⟨?_, fun p hp => ?_, fun c hc => ?_, fun i hi => ?_, fun i hi => ?_, fun i hi => ?_⟩
  · unfold rF
    rw [hA 1 0 (by unfold okI; omega), hA 1 4 (by unfold okI; omega), hA 1 11 (by unfold okI; omega), hA 0 5 (by unfold okI; omega), hA 0 6 (by unfold okI; omega), hA 0 8 (by unfold okI; omega), hA 0 10 (by unfold okI; omega), hs 104 (by omega), hs 105 (by omega), hs 106 (by omega), hs 107 (by omega), hs 108 (by omega), hs 120 (by omega), hs 109 (by omega)]
    exact hF'
  · unfold rP
    rw [hA 2 p (by unfold okI; omega), hA 3 p (by unfold okI; omega), hA 4 p (by unfold okI; omega), hA 13 p (by unfold okI; omega), hA 14 p (by unfold okI; omega), hA 15 p (by unfold okI; omega), hs (3 * p) (by omega), hs (3 * p + 1) (by omega), hs (3 * p + 2) (by omega), hs (18 + p) (by omega), hs (24 + p) (by omega), hs (30 + p) (by omega)]
    exact hP p hp
  · unfold rC
    rw [hA 5 c (by unfold okI; omega), hA 6 c (by unfold okI; omega), hA 7 c (by unfold okI; omega), hA 8 c (by unfold okI; omega), hA 9 c (by unfold okI; omega), hA 10 (3 * c) (by unfold okI; omega), hA 10 (3 * c + 1) (by unfold okI; omega), hA 10 (3 * c + 2) (by unfold okI; omega), hA 16 c (by unfold okI; omega), hs (36 + 5 * c + 0) (by omega), hs (36 + 5 * c + 1) (by omega), hs (36 + 5 * c + 2) (by omega), hs (36 + 5 * c + 3) (by omega), hs (36 + 5 * c + 4) (by omega), hs (66 + 3 * c) (by omega), hs (66 + 3 * c + 1) (by omega), hs (66 + 3 * c + 2) (by omega), hs (84 + c) (by omega)]
    exact hC c hc
  · unfold rN
    rw [hA 11 i (by unfold okI; omega), hA 12 i (by unfold okI; omega), hs (90 + 2 * i) (by omega), hs (90 + 2 * i + 1) (by omega)]
    exact hN i hi
  · unfold rB
    rw [hA 17 i (by unfold okI; omega), hs (121 + i) (by omega)]
    exact hB i hi
  · unfold rY
    rw [hA 18 i (by unfold okI; omega), hs (110 + i) (by omega)]
    exact hY i hi
theorem okI_le {j i : Nat} (h : okI j i) : j ≤ 18 := by unfold okI at h; omega
/-- what counts of it is the same -/
theorem RTx_c {f f' : Nat → Nat → Int32} {o b o' b' : Nat} (hA : ∀ j i, okI j i → f' (j + o') i = f (j + o) i) (hs : ∀ k, k < 361 → f' 130 (k + b') = f 130 (k + b)) (h : RTx f o b) : RTx f' o' b' := by
  obtain ⟨np, nc, ns, nl, ny, ch, ea, h⟩ := h
  exact ⟨np, nc, ns, nl, ny, ch, ea, RTv_c hA hs h⟩
theorem Img_c {z z' : zS} {i o b : Nat} (h21 : z'.1 21 = z.1 21) (h131 : z'.1 131 = z.1 131) (hA : ∀ j, j ≤ 18 → z'.1 (j + o) = z.1 (j + o)) (hs : ∀ k, k < 361 → z'.1 130 (k + b) = z.1 130 (k + b)) (h : Img z i o b) : Img z' i o b := by
  obtain ⟨h1, h2⟩ := h
  refine ⟨by rw [h21, h131]; exact h1, ?_⟩
  rw [h21]
  rcases h2 with h2 | ⟨h2, h3⟩
  · exact Or.inl h2
  · exact Or.inr ⟨h2, RTx_c (fun j i hj => by rw [hA j (okI_le hj)]) hs h3⟩
theorem Inv_upd {z z' : zS} (hR : RTx z'.1 1 0) (h1 : ∀ r, (20 ≤ r ∧ r < 24) ∨ (90 < r ∧ r < 129) ∨ (130 < r ∧ r < 133) → z'.1 r = z.1 r) (hs : ∀ k, 361 ≤ k → z'.1 130 k = z.1 130 k) (h2 : z'.2.1 22 = z.2.1 22) (h3 : z'.2.1 129 17 = z.2.1 129 17) (h4 : z'.2.1 129 18 = z.2.1 129 18) (hI : Inv z) : Inv z' := by
  obtain ⟨-, i0, i1, hr, a, b, hab⟩ := hI
  refine ⟨hR, Img_c (h1 _ (by omega)) (h1 _ (by omega)) (fun j hj => h1 _ (by omega)) (fun k hk => hs _ (by omega)) i0, Img_c (h1 _ (by omega)) (h1 _ (by omega)) (fun j hj => h1 _ (by omega)) (fun k hk => hs _ (by omega)) i1, fun k hk => ?_, a, b, ?_⟩
  · rw [h1 23 (by omega), h1 132 (by omega)]
    exact hr k hk
  · unfold Frc
    rw [h2, h3, h4]
    exact hab
theorem Inv_keep {z z' : zS} (h1 : ∀ r, r < 24 ∨ (90 < r ∧ r < 129) ∨ (129 < r ∧ r < 133) → z'.1 r = z.1 r) (h2 : z'.2.1 22 = z.2.1 22) (h3 : z'.2.1 129 17 = z.2.1 129 17) (h4 : z'.2.1 129 18 = z.2.1 129 18) (hI : Inv z) : Inv z' :=
  Inv_upd (RTx_c (fun j i hj => by rw [h1 (j + 1) (by have := okI_le hj; omega)]) (fun k _ => by rw [h1 130 (by omega)]) hI.1) (fun r hr => h1 r (by omega)) (fun k _ => by rw [h1 130 (by omega)]) h2 h3 h4 hI
theorem Inv_ref {z : zS} (k : Nat) (hI : Inv z) : Inv (set2 (set2 z.1 23 k (z.1 23 k + 1)) 132 k (z.1 132 k + 1), z.2) := by
  have hr : ∀ r, r ≠ 23 → r ≠ 132 → set2 (set2 z.1 23 k (z.1 23 k + 1)) 132 k (z.1 132 k + 1) r = z.1 r := fun r h1 h2 => by rw [set2_a h2, set2_a h1]
  have hR : RTx (set2 (set2 z.1 23 k (z.1 23 k + 1)) 132 k (z.1 132 k + 1)) 1 0 := RTx_c (fun j i hj => by rw [hr (j + 1) (by have := okI_le hj; omega) (by have := okI_le hj; omega)]) (fun k _ => by rw [hr 130 (by omega) (by omega)]) hI.1
  obtain ⟨-, i0, i1, hq, a, b, hab⟩ := hI
  refine ⟨hR, Img_c (hr 21 (by decide) (by decide)) (hr 131 (by decide) (by decide)) (fun j hj => hr (j + 91) (by omega) (by omega)) (fun k hk => congrFun (hr 130 (by decide) (by decide)) _) i0, Img_c (hr 21 (by decide) (by decide)) (hr 131 (by decide) (by decide)) (fun j hj => hr (j + 110) (by omega) (by omega)) (fun k hk => congrFun (hr 130 (by decide) (by decide)) _) i1, fun j hj => ?_, a, b, hab⟩
  by_cases e : j = k
  · subst e
    show set2 (set2 z.1 23 j (z.1 23 j + 1)) 132 j (z.1 132 j + 1) 23 j = _
    rw [set2_n (Or.inl (by decide)), set2_s]
    show _ = set2 (set2 z.1 23 j (z.1 23 j + 1)) 132 j (z.1 132 j + 1) 132 j
    rw [set2_s, hq j hj]
  · show set2 (set2 z.1 23 k (z.1 23 k + 1)) 132 k (z.1 132 k + 1) 23 j = set2 (set2 z.1 23 k (z.1 23 k + 1)) 132 k (z.1 132 k + 1) 132 j
    rw [set2_n (Or.inr e), set2_n (Or.inr e), set2_n (Or.inr e), set2_n (Or.inr e)]
    exact hq j hj
/-- what the first of it says, in the numbers of the heap -/
theorem rt_F {f : Nat → Nat → Int32} {np nc ns nl ny ch ea : Nat} (h : RT f 1 0 np nc ns nl ny ch ea) : (f 2 0 = nI np ∧ f 2 4 = nI nc ∧ f 2 11 = nI ns ∧ f 1 5 = nI ch ∧ f 1 6 = nI ea ∧ f 1 8 = nI nl ∧ f 1 10 = nI ny) ∧ (f 130 104 = nI np ∧ f 130 105 = nI nc ∧ f 130 106 = nI ns ∧ f 130 107 = nI ch ∧ f 130 108 = nI ea ∧ f 130 120 = nI nl ∧ f 130 109 = nI ny) ∧ np ≤ 6 ∧ nc ≤ 6 ∧ ns ≤ 7 ∧ ch ≤ 3 ∧ ea ≤ 1 ∧ nl ≤ 240 ∧ ny ≤ 10 := h.1
theorem rt_P {f : Nat → Nat → Int32} {np nc ns nl ny ch ea : Nat} (h : RT f 1 0 np nc ns nl ny ch ea) {p : Nat} (hp : p < np) : f 3 p = f 130 (3 * p) ∧ f 4 p = f 130 (3 * p + 1) ∧ f 5 p = f 130 (3 * p + 2) ∧ f 14 p = f 130 (18 + p) ∧ f 15 p = f 130 (24 + p) ∧ f 16 p = f 130 (30 + p) ∧ rg (f 130 (3 * p)) 0 6 ∧ rg (f 130 (3 * p + 1)) 0 60 ∧ rg (f 130 (3 * p + 2)) 0 9 ∧ orN (f 130 (18 + p)) nc ∧ orN (f 130 (24 + p)) nc ∧ rg (f 130 (30 + p)) 0 100 := h.2.1 p hp
theorem rt_C {f : Nat → Nat → Int32} {np nc ns nl ny ch ea : Nat} (h : RT f 1 0 np nc ns nl ny ch ea) {c : Nat} (hc : c < nc) : f 6 c = f 130 (36 + 5 * c + 0) ∧ f 7 c = f 130 (36 + 5 * c + 1) ∧ f 8 c = f 130 (36 + 5 * c + 2) ∧ f 9 c = f 130 (36 + 5 * c + 3) ∧ f 10 c = f 130 (36 + 5 * c + 4) ∧ f 11 (3 * c) = f 130 (66 + 3 * c) ∧ f 11 (3 * c + 1) = f 130 (66 + 3 * c + 1) ∧ f 11 (3 * c + 2) = f 130 (66 + 3 * c + 2) ∧ f 17 c = f 130 (84 + c) ∧ rg (f 130 (36 + 5 * c + 0)) 1 9 ∧ rg (f 130 (36 + 5 * c + 1)) 0 9 ∧ rg (f 130 (36 + 5 * c + 2)) 0 9 ∧ rg (f 130 (36 + 5 * c + 3)) 0 9 ∧ rg (f 130 (36 + 5 * c + 4)) 0 19 ∧ orN (f 130 (66 + 3 * c)) np ∧ orN (f 130 (66 + 3 * c + 1)) np ∧ orN (f 130 (66 + 3 * c + 2)) np := h.2.2.1 c hc
theorem rt_N {f : Nat → Nat → Int32} {np nc ns nl ny ch ea : Nat} (h : RT f 1 0 np nc ns nl ny ch ea) {i : Nat} (hi : i < ns) : f 12 i = f 130 (90 + 2 * i) ∧ f 13 i = f 130 (90 + 2 * i + 1) ∧ rg (f 130 (90 + 2 * i)) 1 20 ∧ rg (f 130 (90 + 2 * i + 1)) 0 63 := h.2.2.2.1 i hi
theorem rt_B {f : Nat → Nat → Int32} {np nc ns nl ny ch ea : Nat} (h : RT f 1 0 np nc ns nl ny ch ea) {i : Nat} (hi : i < nl) : f 18 i = f 130 (121 + i) ∧ rg (f 130 (121 + i)) 0 255 := h.2.2.2.2.1 i hi
theorem rt_Y {f : Nat → Nat → Int32} {np nc ns nl ny ch ea : Nat} (h : RT f 1 0 np nc ns nl ny ch ea) {i : Nat} (hi : i < ny) : f 19 i = f 130 (110 + i) ∧ rg (f 130 (110 + i)) 0 1 := h.2.2.2.2.2 i hi
theorem rt_wf {z : zS} {np nc ns nl ny ch ea : Nat} (h : RT z.1 1 0 np nc ns nl ny ch ea) : wfS z (1 + 1) np nc ns := by
  obtain ⟨⟨h1, h2, h3, -⟩, -, h4, h5, h6, -⟩ := rt_F h
  exact ⟨h1, h2, h3, h4, h5, h6⟩
/-- a call of the class and the same of the reference answer alike, and what they have in common goes on -/
def OpI (E : zE) (d i j : Nat) (as : List Value) (z : zS) : Prop := ∃ v z1 z2, (∀ K, Cl E d i (.ref 0 :: as) (HP z) K = K (some (.int v)) (HP z1)) ∧ (∀ K, Cl E d j (.ref 129 :: as) (HP z1) K = K (some (.int v)) (HP z2)) ∧ Inv z2
