/-! both sides' numbers, held against one another -/
def iI (a : Int) : Int32 := Int32.ofInt a
theorem iI_n (n : Nat) : nI n = iI (n : Int) := Int32.ofInt_eq_ofNat.symm
theorem iI_t {a : Int} (h1 : -2147483648 ≤ a) (h2 : a < 2147483648) : (iI a).toInt = a := by
  unfold iI
  rw [Int32.toInt_ofInt]
  have e : Int32.size = 4294967296 := rfl
  rw [e]
  exact Int.bmod_eq_of_le (by omega) (by omega)
theorem iI_add (a b : Int) : iI a + iI b = iI (a + b) := (Int32.ofInt_add a b).symm
theorem iI_sub (a b : Int) : iI a - iI b = iI (a - b) := (Int32.ofInt_sub a b).symm
theorem iI_lt {a b : Int} (h1 : -2147483648 ≤ a) (h2 : a < 2147483648) (h3 : -2147483648 ≤ b) (h4 : b < 2147483648) : (iI a < iI b) = (a < b) := by
  rw [Int32.lt_iff_toInt_lt, iI_t h1 h2, iI_t h3 h4]
theorem iI_eq {a b : Int} (h1 : -2147483648 ≤ a) (h2 : a < 2147483648) (h3 : -2147483648 ≤ b) (h4 : b < 2147483648) : (iI a = iI b) = (a = b) := by
  rw [← Int32.toInt_inj, iI_t h1 h2, iI_t h3 h4]
theorem iI_toI (x : Int32) : x = iI x.toInt := (Int32.ofInt_toInt x).symm
/-- FIT, as a number -/
def plN (v n r : Nat) : Nat := 10 - (if v < n then n - v else v - n) + (6 - 2 * r)
def fitN (k v n l dr r : Nat) : Nat := if k = 0 then plN v n r else if k = 1 then plN v n r + (6 - 2 * r) else if k = 2 then plN v n r + l - dr else if k = 3 then max 5 (plN v n r) else if k = 4 then max 5 (plN v n r) / 2 else if k = 5 then max 5 (plN v n r) + dr else (plN v n r + l - dr) / 2
theorem fitN_le {k v n l dr r : Nat} (hv : v ≤ 9) (hn : n ≤ 9) (hl : l ≤ 9) (hd : dr ≤ 9) : fitN k v n l dr r ≤ 25 := by
  have h : plN v n r ≤ 16 := by unfold plN; split <;> omega
  unfold fitN
  generalize plN v n r = p at h
  repeat' split
  all_goals omega
theorem pl_F : ∀ v, v < 10 → ∀ n, n < 10 → ∀ r, r < 4 → 10 - (if nI v - nI n < 0 then 0 - (nI v - nI n) else nI v - nI n) + nI (6 - 2 * r) = nI (plN v n r) := by decide +kernel
theorem pl_G : ∀ v, v < 10 → ∀ n, n < 10 → ∀ r, r < 4 → 10 - (if nI v < nI n then nI n - nI v else nI v - nI n) + nI (6 - 2 * r) = nI (plN v n r) := by decide +kernel
theorem w_F : ∀ r, r < 4 → 2 * (3 - nI r) = nI (6 - 2 * r) := by decide +kernel
theorem w_G : ∀ r, r < 4 → 6 - 2 * nI r = nI (6 - 2 * r) := by decide +kernel
theorem lg_F : ∀ p, p < 17 → ∀ l, l < 10 → ∀ e, e < 10 → (if 0 < nI p + nI l - nI e then nI p + nI l - nI e else 0) = nI (p + l - e) := by decide +kernel
theorem lg_G : ∀ p, p < 17 → ∀ l, l < 10 → ∀ e, e < 10 → (if nI p + nI l - nI e < 0 then 0 else nI p + nI l - nI e) = nI (p + l - e) := by decide +kernel
theorem sm_F : ∀ p, p < 17 → (if 5 < nI p then nI p else 5) = nI (max 5 p) := by decide +kernel
theorem sm_G : ∀ p, p < 17 → (if nI p < 5 then 5 else nI p) = nI (max 5 p) := by decide +kernel
theorem kd_eq : ∀ k, k < 7 → ((nI k = 0) = (k = 0)) ∧ ((nI k = 1) = (k = 1)) ∧ ((nI k = 2) = (k = 2)) ∧ ((nI k = 3) = (k = 3)) ∧ ((nI k = 4) = (k = 4)) ∧ ((nI k = 5) = (k = 5)) ∧ ((nI k = 6) = (k = 6)) := by
  intro k hk
  have e : ∀ j, j < 7 → (nI k = nI j) = (k = j) := fun j hj => propext (nI_eq (by omega) (by omega))
  exact ⟨e 0 (by decide), e 1 (by decide), e 2 (by decide), e 3 (by decide), e 4 (by decide), e 5 (by decide), e 6 (by decide)⟩
theorem fitF_N {k v n l dr r : Nat} (hk : k ≤ 6) (hv : v ≤ 9) (hn : n ≤ 9) (hl : l ≤ 9) (hd : dr ≤ 9) (hr : r ≤ 3) : fitF (nI k) (nI v) (nI n) (nI l) (nI dr) (nI r) = nI (fitN k v n l dr r) := by
  have hp : plN v n r < 17 := by unfold plN; split <;> omega
  obtain ⟨k0, k1, k2, k3, k4, k5, k6⟩ := kd_eq k (by omega)
  simp only [fitF, pl_F v (by omega) n (by omega) r (by omega), w_F r (by omega), fitN, k0, k1, k2, k3, k4, k5, k6]
  generalize plN v n r = p at hp
  rw [lg_F p hp l (by omega) dr (by omega), sm_F p hp]
  have e2 : (2 : Int32) = nI 2 := by decide
  rw [e2, nI_div (show max 5 p < 2 ^ 31 by omega) (by decide), nI_div (show p + l - dr < 2 ^ 31 by omega) (by decide), nI_add, nI_add]
  repeat' split
  all_goals first | rfl | omega
theorem fitG_N {k v n l dr r : Nat} (hk : k ≤ 6) (hv : v ≤ 9) (hn : n ≤ 9) (hl : l ≤ 9) (hd : dr ≤ 9) (hr : r ≤ 3) : fitG (nI k) (nI v) (nI n) (nI l) (nI dr) (nI r) = nI (fitN k v n l dr r) := by
  have hp : plN v n r < 17 := by unfold plN; split <;> omega
  obtain ⟨k0, k1, k2, k3, k4, k5, k6⟩ := kd_eq k (by omega)
  simp only [fitG, pl_G v (by omega) n (by omega) r (by omega), w_G r (by omega), fitN, k0, k1, k2, k3, k4, k5, k6]
  generalize plN v n r = p at hp
  rw [lg_G p hp l (by omega) dr (by omega), sm_G p hp]
  have e2 : (2 : Int32) = nI 2 := by decide
  rw [e2, nI_div (show max 5 p < 2 ^ 31 by omega) (by decide), nI_div (show p + l - dr < 2 ^ 31 by omega) (by decide), nI_add, nI_add]
  repeat' split
  all_goals first | rfl | omega
theorem rkF_le (a b c p : Int32) : ∃ r, r ≤ 3 ∧ rkF a b c p = nI r := by
  unfold rkF
  split
  · exact ⟨0, by decide, rfl⟩
  · split
    · exact ⟨1, by decide, rfl⟩
    · split
      · exact ⟨2, by decide, rfl⟩
      · exact ⟨3, by decide, rfl⟩
section RTS
variable {z : zS} {np nc ns nl ny ch ea : Nat}
theorem q_pl (h : RT z.1 1 0 np nc ns nl ny ch ea) {i p : Nat} (hi : i < ns) (hp : p < np) : plB z 2 (nI i) (nI p) = bt (z.1 130 (90 + 2 * i + 1)) p := by
  obtain ⟨⟨h1, -, h3, -⟩, -, n1, -, n3, -⟩ := rt_F h
  unfold plB
  rw [h1, h3, inB_nI (by omega) (by omega), inB_nI (by omega) (by omega), decide_eq_true hi, decide_eq_true hp, nI_cl (by omega), bitB_bt (by omega)]
  show (true && true && bt (z.1 13 i) p) = _
  rw [(rt_N h hi).2.1]
  rfl
theorem q_plC (h : RT z.1 1 0 np nc ns nl ny ch ea) {i p : Nat} (hi : i < ns) (hp : p < np) : plB z 2 (nI i) (nI p) = bitC (z.1 130 (90 + 2 * i + 1)) (nI p) := by
  obtain ⟨-, -, n1, -⟩ := rt_F h
  rw [q_pl h hi hp, bitC_bt (by omega)]
theorem q_min (h : RT z.1 1 0 np nc ns nl ny ch ea) {p : Nat} (hp : p < np) : minZ z 2 (nI p) ns 0 = mmM z ns (nI p) := by
  unfold minZ mmM
  refine itr_congr ns (fun i hi => ?_)
  generalize itr _ i _ = b
  rw [q_plC h hi hp, show z.1 (2 + 10) i = z.1 130 (90 + 2 * i) from (rt_N h hi).1]
  split
  · rfl
  · rw [Int32.add_zero]
theorem q_rk (h : RT z.1 1 0 np nc ns nl ny ch ea) {c p : Nat} (hc : c < nc) (hp : p < np) : rkZ z 2 (nI c) (nI p) = rkF (z.1 130 (66 + 3 * c)) (z.1 130 (66 + 3 * c + 1)) (z.1 130 (66 + 3 * c + 2)) (nI p) := by
  obtain ⟨⟨h1, h2, -⟩, -, n1, n2, -⟩ := rt_F h
  obtain ⟨-, -, -, -, -, w0, w1, w2, -⟩ := rt_C h hc
  obtain ⟨e0, e1, e2, e3⟩ := nI_3 (show c < 6 by omega)
  unfold rkZ
  rw [h1, h2, inB_nI (by omega) (by omega), inB_nI (by omega) (by omega), decide_eq_true hc, decide_eq_true hp, e0, e2, e3, nI_cl (by omega), nI_cl (by omega), nI_cl (by omega)]
  show rkF (z.1 11 (3 * c)) (z.1 11 (3 * c + 1)) (z.1 11 (3 * c + 2)) (nI p) = _
  rw [w0, w1, w2]
theorem q_fit (h : RT z.1 1 0 np nc ns nl ny ch ea) {c p : Nat} (hc : c < nc) (hp : p < np) : ∃ n, n ≤ 25 ∧ fitZ z 2 (nI c) (nI p) = nI n ∧ fitM z c p = nI n := by
  obtain ⟨⟨h1, h2, -⟩, -, n1, n2, -⟩ := rt_F h
  obtain ⟨p1, -, p3, -, -, -, ⟨k, -, hk, ek⟩, -, ⟨n, -, hn, en⟩, -⟩ := rt_P h hp
  obtain ⟨c1, -, c3, c4, -, -, -, -, -, ⟨l, -, hl, el⟩, -, ⟨v, -, hv, ev⟩, ⟨e, -, he, ee⟩, -⟩ := rt_C h hc
  obtain ⟨r, hr, er⟩ := rkF_le (z.1 130 (66 + 3 * c)) (z.1 130 (66 + 3 * c + 1)) (z.1 130 (66 + 3 * c + 2)) (nI p)
  refine ⟨fitN k v n l e r, fitN_le hv hn hl he, ?_, ?_⟩
  · unfold fitZ
    rw [q_rk h hc hp, h1, h2, inB_nI (by omega) (by omega), inB_nI (by omega) (by omega), decide_eq_true hc, decide_eq_true hp, nI_cl (by omega), nI_cl (by omega), er]
    show fitF (z.1 3 p) (z.1 8 c) (z.1 5 p) (z.1 6 c) (z.1 9 c) (nI r) = _
    rw [p1, p3, c1, c3, c4, ek, en, el, ev, ee]
    exact fitF_N hk hv hn hl he hr
  · unfold fitM
    rw [er, ek, en, el, ev, ee]
    exact fitG_N hk hv hn hl he hr
end RTS
