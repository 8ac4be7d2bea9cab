/-! the reference: rehearsals -/
def anF (z : zS) (i : Nat) (g : Nat → Int32) : Nat → Int32 := upd g i (g i - (if z.1 130 (18 + i) = -1 then 0 else g i * z.1 130 (36 + 5 * (z.1 130 (18 + i)).toNatClampNeg + 1) / 20))
def okC (z : zS) (np : Nat) : Prop := ∀ i, i < np → z.1 130 (18 + i) = -1 ∨ ∃ c, c < 6 ∧ z.1 130 (18 + i) = nI c
theorem nIn1 {c : Nat} (hc : c < 6) : (nI c = -1) = False := by
  refine propext ⟨fun h => ?_, False.elim⟩
  have := nI_pos (n := c) (by omega)
  rw [h] at this
  exact this (by decide)
theorem m_aNight (E : zE) (d : Nat) {np : Nat} (hnp : np ≤ 6) {z : zS} (hp : z.1 130 104 = nI np) (hc : okC z np) (K : Option Value → zH → Prop) : Cl E (d + 1) 175 [.ref 129] (HP z) K = K none (HP (setR z.1 137 (itr (anF z) np (z.1 137)), z.2)) := by
  have hn' : np < 2 ^ 31 := by omega
  have h1 : (130 : Nat) ≠ 137 := by decide
  have t20 : ((20 : Int32) = 0) = False := by decide
  have loop := itr_junk (τ := Option Value) (fun i g x => Ev E (d + 1) zm_X9_aNight 2 [some (.ref 129), some (.int (nI i)), x] [] (HP (setR z.1 137 g, z.2)) K) (anF z) (z.1 137) (R := K none (HP (setR z.1 137 (itr (anF z) np (z.1 137)), z.2))) np (fun i x hi => by
    generalize itr _ i _ = g
    have e : (18 : Int32) + nI i = nI (18 + i) := nI_add 18 i
    refine ⟨some (.int (z.1 130 (18 + i))), ?_⟩
    rw [e_X9_aNight_2]
    rcases hc i hi with h | ⟨c, h6, h⟩
    · simp only [↓e_X9_aNight_7, ↓e_X9_aNight_10, ↓e_X9_aNight_13, ↓e_X9_aNight_17, ↓e_X9_aNight_22, ↓e_X9_aNight_27, ↓e_X9_aNight_30, ↓e_X9_aNight_35, ↓e_X9_aNight_39, ↓e_X9_aNight_43, ↓e_X9_aNight_45, ↓e_X9_aNight_51, ↓e_X9_aNight_55, ↓e_X9_aNight_57, ↓e_X9_aNight_63, g9 o9_129, v9 o9_129, Nat.reduceAdd, stL, e, st_k (show 18 + i < 1083 by omega), HP_ri i137, HP_wi i137, setR_n h1, setR_s, setR_2, set2_R, hp, zps_s, zk_i, zk_r, zk_n, nI_lt_iff (show i < 2 ^ 31 by omega) hn', hi, ↓reduceIte, nI_1, nI_cl (show i < 2 ^ 31 by omega), in_nI (show i < 6 by omega) (by decide), true_and, t20, not_false_eq_true, anF, h]
    · have o1 := fun z => m_of E d h6 (show 1 < 5 by decide) z
      rw [show nI 1 = 1 from by decide] at o1
      simp only [↓e_X9_aNight_7, ↓e_X9_aNight_10, ↓e_X9_aNight_13, ↓e_X9_aNight_17, ↓e_X9_aNight_22, ↓e_X9_aNight_27, ↓e_X9_aNight_30, ↓e_X9_aNight_35, ↓e_X9_aNight_39, ↓e_X9_aNight_43, ↓e_X9_aNight_45, ↓e_X9_aNight_51, ↓e_X9_aNight_55, ↓e_X9_aNight_57, ↓e_X9_aNight_63, g9 o9_129, v9 o9_129, Nat.reduceAdd, stL, e, st_k (show 18 + i < 1083 by omega), HP_ri i137, HP_wi i137, setR_n h1, setR_s, setR_2, set2_R, hp, zps_s, zk_i, zk_r, zk_n, nI_lt_iff (show i < 2 ^ 31 by omega) hn', hi, ↓reduceIte, nI_1, nI_cl (show i < 2 ^ 31 by omega), in_nI (show i < 6 by omega) (by decide), true_and, t20, not_false_eq_true, anF, h, nIn1 h6, o1, nI_cl (show c < 2 ^ 31 by omega)]) (fun x => by
    rw [e_X9_aNight_2]
    simp only [↓e_X9_aNight_7, ↓e_X9_aNight_10, ↓e_X9_aNight_13, ↓e_X9_aNight_17, ↓e_X9_aNight_22, ↓e_X9_aNight_27, ↓e_X9_aNight_30, ↓e_X9_aNight_35, ↓e_X9_aNight_39, ↓e_X9_aNight_43, ↓e_X9_aNight_45, ↓e_X9_aNight_51, ↓e_X9_aNight_55, ↓e_X9_aNight_57, ↓e_X9_aNight_63, g9 o9_129, Nat.reduceAdd, stL, setR_n h1, hp, nI_lt_iff hn' hn', Nat.lt_irrefl, ↓reduceIte]) none
  simp only [↓c_X9_aNight, ↓e_X9_aNight_0, ↓e_X9_aNight_7, ↓e_X9_aNight_10, ↓e_X9_aNight_13, ↓e_X9_aNight_17, ↓e_X9_aNight_22, ↓e_X9_aNight_27, ↓e_X9_aNight_30, ↓e_X9_aNight_35, ↓e_X9_aNight_39, ↓e_X9_aNight_43, ↓e_X9_aNight_45, ↓e_X9_aNight_51, ↓e_X9_aNight_55, ↓e_X9_aNight_57, ↓e_X9_aNight_63, zk_i, zk_r, zk_n]
  rw [nI_0] at loop
  simp only [setR_id] at loop
  exact loop
def gtF (z : zS) (s : Nat) (m : Int32) (i : Nat) (g : Nat → Int32) : Nat → Int32 := if z.1 130 (18 + i) ≠ -1 ∧ bitC (z.1 130 (90 + 2 * s + 1)) (nI i) = true then upd g i (if 100 < g i + 10 * z.1 130 (36 + 5 * (z.1 130 (18 + i)).toNatClampNeg + 0) * m / (z.1 130 (3 * i + 1) + 1) then 100 else g i + 10 * z.1 130 (36 + 5 * (z.1 130 (18 + i)).toNatClampNeg + 0) * m / (z.1 130 (3 * i + 1) + 1)) else g
theorem hasF_c {z z' : zS} (h : z.1 130 = z'.1 130) (c m : Int32) : hasF z c m = hasF z' c m := by
  funext i b
  unfold hasF
  rw [h]
theorem sitB_c {z z' : zS} (h : z.1 130 = z'.1 130) (n s : Nat) (c : Int32) : sitB z n s c = sitB z' n s c := by
  unfold sitB
  rw [hasF_c h, hasF_c h, h]
def stF (z : zS) (np s : Nat) (m : Int32) (c : Nat) (x : Int32) : Int32 := x + (if sitB z np s (nI c) = true then m else 0)
theorem m_goesThrough (E : zE) (d : Nat) {np nc s : Nat} (hnp : np ≤ 6) (hnc : nc ≤ 6) (hs : s < 7) (m : Int32) {z : zS} (hp : z.1 130 104 = nI np) (hn : z.1 130 105 = nI nc) (hc : okC z np) (hl : ∀ i, i < np → (z.1 130 (3 * i + 1) + 1 = 0) = False) (K : Option Value → zH → Prop) : Cl E (d + 2) 174 [.ref 129, .int (nI s), .int m] (HP z) K = K none (HP (setR (setR z.1 137 (itr (gtF z s m) np (z.1 137))) 129 (upd (z.1 129) 16 (itr (stF z np s m) nc (z.1 129 16))), z.2)) := by
  have hn' : np < 2 ^ 31 := by omega
  have hn2 : nc < 2 ^ 31 := by omega
  have h1 : (130 : Nat) ≠ 137 := by decide
  have h2 : (130 : Nat) ≠ 129 := by decide
  have h3 : (129 : Nat) ≠ 137 := by decide
  have loop2 : ∀ (G : Nat → Int32) (x y : Option Value), Ev E (d + 2) zm_X9_goesThrough 96 [some (.ref 129), some (.int (nI s)), some (.int m), some (.int 0), x, y] [] (HP (setR z.1 137 G, z.2)) K = K none (HP (setR (setR z.1 137 G) 129 (upd (z.1 129) 16 (itr (stF z np s m) nc (z.1 129 16))), z.2)) := fun G x y => by
    have l := itr_eq (fun c v => Ev E (d + 2) zm_X9_goesThrough 96 [some (.ref 129), some (.int (nI s)), some (.int m), some (.int (nI c)), x, y] [] (HP (setR (setR z.1 137 G) 129 (upd (z.1 129) 16 v), z.2)) K) (stF z np s m) (z.1 129 16) nc (fun c hi => by
      generalize itr _ c _ = v
      have hsit := m_sits E d (nI c) hnp hs (z := (setR (setR z.1 137 G) 129 (upd (z.1 129) 16 v), z.2)) (by simp only [setR_n h2, setR_n h1]; exact hp)
      rw [sitB_c (z := (setR (setR z.1 137 G) 129 (upd (z.1 129) 16 v), z.2)) (z' := z) (by simp only [setR_n h2, setR_n h1])] at hsit
      rw [e_X9_goesThrough_96]
      simp only [↓e_X9_goesThrough_7, ↓e_X9_goesThrough_10, ↓e_X9_goesThrough_13, ↓e_X9_goesThrough_17, ↓e_X9_goesThrough_22, ↓e_X9_goesThrough_30, ↓e_X9_goesThrough_36, ↓e_X9_goesThrough_39, ↓e_X9_goesThrough_43, ↓e_X9_goesThrough_45, ↓e_X9_goesThrough_54, ↓e_X9_goesThrough_62, ↓e_X9_goesThrough_65, ↓e_X9_goesThrough_72, ↓e_X9_goesThrough_80, ↓e_X9_goesThrough_85, ↓e_X9_goesThrough_87, ↓e_X9_goesThrough_88, ↓e_X9_goesThrough_94, ↓e_X9_goesThrough_101, ↓e_X9_goesThrough_104, ↓e_X9_goesThrough_107, ↓e_X9_goesThrough_112, ↓e_X9_goesThrough_118, ↓e_X9_goesThrough_121, ↓e_X9_goesThrough_125, ↓e_X9_goesThrough_126, ↓e_X9_goesThrough_130, ↓e_X9_goesThrough_136, g9 o9_129, v9 o9_129, p9 o9_129, Nat.reduceAdd, stL, hsit, setR_n h2, setR_n h1, setR_s, setR_2, set2_R, upd_s, upd_2, hn, zps_s, bI_0, zk_i, zk_r, zk_n, nI_lt_iff (show c < 2 ^ 31 by omega) hn2, hi, ↓reduceIte, nI_1, stF]
      cases sitB z np s (nI c) <;> simp [setR_2, upd_2])
    rw [nI_0, upd_id] at l
    have e : setR (setR z.1 137 G) 129 (z.1 129) = setR z.1 137 G := by
      have := setR_id (setR z.1 137 G) 129
      rw [setR_n h3] at this
      exact this
    rw [e] at l
    rw [l, e_X9_goesThrough_96]
    simp only [↓e_X9_goesThrough_7, ↓e_X9_goesThrough_10, ↓e_X9_goesThrough_13, ↓e_X9_goesThrough_17, ↓e_X9_goesThrough_22, ↓e_X9_goesThrough_30, ↓e_X9_goesThrough_36, ↓e_X9_goesThrough_39, ↓e_X9_goesThrough_43, ↓e_X9_goesThrough_45, ↓e_X9_goesThrough_54, ↓e_X9_goesThrough_62, ↓e_X9_goesThrough_65, ↓e_X9_goesThrough_72, ↓e_X9_goesThrough_80, ↓e_X9_goesThrough_85, ↓e_X9_goesThrough_87, ↓e_X9_goesThrough_88, ↓e_X9_goesThrough_94, ↓e_X9_goesThrough_101, ↓e_X9_goesThrough_104, ↓e_X9_goesThrough_107, ↓e_X9_goesThrough_112, ↓e_X9_goesThrough_118, ↓e_X9_goesThrough_121, ↓e_X9_goesThrough_125, ↓e_X9_goesThrough_126, ↓e_X9_goesThrough_130, ↓e_X9_goesThrough_136, g9 o9_129, Nat.reduceAdd, stL, setR_n h2, setR_n h1, hn, nI_lt_iff hn2 hn2, Nat.lt_irrefl, ↓reduceIte]
  have loop := itr_junk (τ := Option Value × Option Value) (fun i g x => Ev E (d + 2) zm_X9_goesThrough 2 [some (.ref 129), some (.int (nI s)), some (.int m), some (.int (nI i)), x.1, x.2] [] (HP (setR z.1 137 g, z.2)) K) (gtF z s m) (z.1 137) (R := K none (HP (setR (setR z.1 137 (itr (gtF z s m) np (z.1 137))) 129 (upd (z.1 129) 16 (itr (stF z np s m) nc (z.1 129 16))), z.2))) np (fun i x hi => by
    generalize itr _ i _ = g
    have e : (18 : Int32) + nI i = nI (18 + i) := nI_add 18 i
    rw [e_X9_goesThrough_2]
    rcases hc i hi with h | ⟨c, h6, h⟩
    · simp only [↓e_X9_goesThrough_7, ↓e_X9_goesThrough_10, ↓e_X9_goesThrough_13, ↓e_X9_goesThrough_17, ↓e_X9_goesThrough_22, ↓e_X9_goesThrough_30, ↓e_X9_goesThrough_36, ↓e_X9_goesThrough_39, ↓e_X9_goesThrough_43, ↓e_X9_goesThrough_45, ↓e_X9_goesThrough_54, ↓e_X9_goesThrough_62, ↓e_X9_goesThrough_65, ↓e_X9_goesThrough_72, ↓e_X9_goesThrough_80, ↓e_X9_goesThrough_85, ↓e_X9_goesThrough_87, ↓e_X9_goesThrough_88, ↓e_X9_goesThrough_94, ↓e_X9_goesThrough_101, ↓e_X9_goesThrough_104, ↓e_X9_goesThrough_107, ↓e_X9_goesThrough_112, ↓e_X9_goesThrough_118, ↓e_X9_goesThrough_121, ↓e_X9_goesThrough_125, ↓e_X9_goesThrough_126, ↓e_X9_goesThrough_130, ↓e_X9_goesThrough_136, g9 o9_129, v9 o9_129, Nat.reduceAdd, stL, e, st_k (show 18 + i < 1083 by omega), setR_n h1, hp, h, zps_s, zk_i, zk_r, zk_n, nI_lt_iff (show i < 2 ^ 31 by omega) hn', hi, ↓reduceIte, nI_1, gtF, ne_eq, not_true_eq_false, false_and]
      exact ⟨(_, _), rfl⟩
    · have o0 := fun z => m_of E (d + 1) h6 (show 0 < 5 by decide) z
      rw [show nI 0 = 0 from by decide] at o0
      simp only [↓e_X9_goesThrough_7, ↓e_X9_goesThrough_10, ↓e_X9_goesThrough_13, ↓e_X9_goesThrough_17, ↓e_X9_goesThrough_22, ↓e_X9_goesThrough_30, ↓e_X9_goesThrough_36, ↓e_X9_goesThrough_39, ↓e_X9_goesThrough_43, ↓e_X9_goesThrough_45, ↓e_X9_goesThrough_54, ↓e_X9_goesThrough_62, ↓e_X9_goesThrough_65, ↓e_X9_goesThrough_72, ↓e_X9_goesThrough_80, ↓e_X9_goesThrough_85, ↓e_X9_goesThrough_87, ↓e_X9_goesThrough_88, ↓e_X9_goesThrough_94, ↓e_X9_goesThrough_101, ↓e_X9_goesThrough_104, ↓e_X9_goesThrough_107, ↓e_X9_goesThrough_112, ↓e_X9_goesThrough_118, ↓e_X9_goesThrough_121, ↓e_X9_goesThrough_125, ↓e_X9_goesThrough_126, ↓e_X9_goesThrough_130, ↓e_X9_goesThrough_136, g9 o9_129, v9 o9_129, Nat.reduceAdd, stL, e, st_k (show 18 + i < 1083 by omega), setR_n h1, hp, h, nIn1 h6, o0, m_isIn E (d + 1) _ hs, m_lines E (d + 1) (show i < 6 by omega), HP_ri i137, HP_wi i137, setR_s, setR_2, set2_R, hl i hi, bI_0, zps_s, zk_i, zk_r, zk_n, nI_lt_iff (show i < 2 ^ 31 by omega) hn', hi, ↓reduceIte, nI_1, nI_cl (show i < 2 ^ 31 by omega), nI_cl (show c < 2 ^ 31 by omega), in_nI (show i < 6 by omega) (by decide), gtF, ne_eq, not_false_eq_true, true_and]
      rcases (Bool.eq_false_or_eq_true (bitC (z.1 130 (90 + 2 * s + 1)) (nI i))).symm with hb | hb
      · simp only [hb, Bool.false_eq_true, ↓reduceIte]
        exact ⟨(_, _), rfl⟩
      · simp only [hb, Bool.true_eq_false, ↓reduceIte]
        by_cases hq : 100 < g i + 10 * z.1 130 (36 + 5 * c + 0) * m / (z.1 130 (3 * i + 1) + 1)
        · simp only [if_pos hq]
          exact ⟨(_, _), rfl⟩
        · simp only [if_neg hq]
          exact ⟨(_, _), rfl⟩) (fun x => by
    rw [e_X9_goesThrough_2]
    simp only [↓e_X9_goesThrough_7, ↓e_X9_goesThrough_10, ↓e_X9_goesThrough_13, ↓e_X9_goesThrough_17, ↓e_X9_goesThrough_22, ↓e_X9_goesThrough_30, ↓e_X9_goesThrough_36, ↓e_X9_goesThrough_39, ↓e_X9_goesThrough_43, ↓e_X9_goesThrough_45, ↓e_X9_goesThrough_54, ↓e_X9_goesThrough_62, ↓e_X9_goesThrough_65, ↓e_X9_goesThrough_72, ↓e_X9_goesThrough_80, ↓e_X9_goesThrough_85, ↓e_X9_goesThrough_87, ↓e_X9_goesThrough_88, ↓e_X9_goesThrough_94, ↓e_X9_goesThrough_101, ↓e_X9_goesThrough_104, ↓e_X9_goesThrough_107, ↓e_X9_goesThrough_112, ↓e_X9_goesThrough_118, ↓e_X9_goesThrough_121, ↓e_X9_goesThrough_125, ↓e_X9_goesThrough_126, ↓e_X9_goesThrough_130, ↓e_X9_goesThrough_136, g9 o9_129, Nat.reduceAdd, stL, setR_n h1, hp, nI_lt_iff hn' hn', Nat.lt_irrefl, ↓reduceIte, zk_i, zk_r, loop2]) (none, none)
  simp only [↓c_X9_goesThrough, ↓e_X9_goesThrough_0, ↓e_X9_goesThrough_7, ↓e_X9_goesThrough_10, ↓e_X9_goesThrough_13, ↓e_X9_goesThrough_17, ↓e_X9_goesThrough_22, ↓e_X9_goesThrough_30, ↓e_X9_goesThrough_36, ↓e_X9_goesThrough_39, ↓e_X9_goesThrough_43, ↓e_X9_goesThrough_45, ↓e_X9_goesThrough_54, ↓e_X9_goesThrough_62, ↓e_X9_goesThrough_65, ↓e_X9_goesThrough_72, ↓e_X9_goesThrough_80, ↓e_X9_goesThrough_85, ↓e_X9_goesThrough_87, ↓e_X9_goesThrough_88, ↓e_X9_goesThrough_94, ↓e_X9_goesThrough_101, ↓e_X9_goesThrough_104, ↓e_X9_goesThrough_107, ↓e_X9_goesThrough_112, ↓e_X9_goesThrough_118, ↓e_X9_goesThrough_121, ↓e_X9_goesThrough_125, ↓e_X9_goesThrough_126, ↓e_X9_goesThrough_130, ↓e_X9_goesThrough_136, zk_i, zk_r, zk_n]
  rw [nI_0] at loop
  simp only [setR_id] at loop
  exact loop
