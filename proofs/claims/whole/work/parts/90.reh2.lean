/-! rehearse, night: the calls -/
theorem lnZ_c {z z' : zS} (h : ∀ r, r ≠ 16 → z'.1 r = z.1 r) (p s m : Int32) : lnZ z' 1 p s m = lnZ z 1 p s m := by
  unfold lnZ plB
  simp only [Nat.reduceAdd]
  rw [h 14 (by decide), h 2 (by decide), h 13 (by decide), h 6 (by decide), h 4 (by decide)]
theorem fdZ_c {z z' : zS} (h : ∀ r, r ≠ 16 → z'.1 r = z.1 r) (p : Int32) : fdZ z' 1 p = fdZ z 1 p := by
  unfold fdZ
  simp only [Nat.reduceAdd]
  rw [h 14 (by decide), h 2 (by decide), h 7 (by decide)]
theorem siZ_c {z z' : zS} (h : ∀ r, r ≠ 16 → z'.1 r = z.1 r) (n : Nat) (s : Int32) : siZ z' 1 n s = siZ z 1 n s := by
  have e : siF z' 1 s = siF z 1 s := by
    funext i b
    unfold siF plB
    simp only [Nat.reduceAdd]
    rw [h 14 (by decide), h 2 (by decide), h 13 (by decide)]
  unfold siZ
  rw [e]
theorem wfS_c {z z' : zS} {o np nc ns : Nat} (h : z'.1 o = z.1 o) (hw : wfS z o np nc ns) : wfS z' o np nc ns := by
  unfold wfS
  rw [h]
  exact hw
def knN (z : zS) (p : Nat) : Nat := (z.1 130 (30 + p)).toNatClampNeg
theorem q_kn {z : zS} {np nc ns nl ny ch ea : Nat} (h : RT z.1 1 0 np nc ns nl ny ch ea) {p : Nat} (hp : p < np) : z.1 130 (30 + p) = nI (knN z p) ∧ z.1 16 p = nI (knN z p) ∧ knN z p ≤ 100 := by
  obtain ⟨-, -, -, -, -, p6, -, -, -, -, -, ⟨k, -, k2, ek⟩⟩ := rt_P h hp
  have e : knN z p = k := by unfold knN; rw [ek, nI_cl (by omega)]
  rw [e, p6, ek]
  exact ⟨rfl, rfl, k2⟩
theorem x_isMinutes (E : zE) (d : Nat) (m : Int32) (h : zH) (K : Option Value → zH → Prop) : Cl E d 121 [.int m] h K = K (some (.int (bI (inL m.toInt64 1 40)))) h := by
  rcases inL_c (x := m) 1 40 m_d1 (by decide : (40 : Int64).toInt = ((40 : Nat) : Int)) (by decide) (by decide) with ⟨hv, j, j1, j2, rfl⟩ | ⟨hv, hv2⟩
  · have e1 : (nI j < (1 : Int32)) = False := eq_false (nI_nlt (b := 1) (by omega) (by omega))
    have e2 : ((40 : Int32) < nI j) = False := eq_false (nI_nlt (a := 40) (by omega) (by decide))
    simp only [↓c_X8_isMinutes, ↓e_X8_isMinutes_0, ↓e_X8_isMinutes_5, ↓e_X8_isMinutes_11, ↓e_X8_isMinutes_15, ↓e_X8_isMinutes_16, e1, e2, hv, bI_t, i01, or_true, true_and, ↓reduceIte]
  · by_cases q : m < 1
    · simp only [↓c_X8_isMinutes, ↓e_X8_isMinutes_0, ↓e_X8_isMinutes_5, ↓e_X8_isMinutes_11, ↓e_X8_isMinutes_15, ↓e_X8_isMinutes_16, q, hv, bI_f, true_or, true_and, ↓reduceIte]
    · have q1 : (40 : Int32) < m := hv2.resolve_left q
      simp only [↓c_X8_isMinutes, ↓e_X8_isMinutes_0, ↓e_X8_isMinutes_5, ↓e_X8_isMinutes_11, ↓e_X8_isMinutes_15, ↓e_X8_isMinutes_16, q, q1, hv, bI_f, true_or, true_and, ↓reduceIte]
/-- the class's rehearse -/
theorem x_rehearse (E : zE) (d : Nat) {z : zS} {np nc ns nl ny ch ea : Nat} (h : RT z.1 1 0 np nc ns nl ny ch ea) {s m : Nat} (hs : s < ns) (m1 : 1 ≤ m) (hm : m ≤ 40) (K : Option Value → zH → Prop) : Cl E (d + 3) 95 [.ref 0, .int (nI s), .int (nI m)] (HP z) K = K (some (.int (nI (siN z np nc s)))) (HP (setR (setR z.1 16 (itr (fun p g => upd g p (nI (min 100 (knN z p + lnN z s m p)))) np (z.1 16))) 17 (itr (fun c g => if sitB z np s (nI c) = true then upd g c (g c + nI m) else g) nc (z.1 17)), z.2)) := by
  obtain ⟨hc, hmm, hn⟩ := rt_F h
  have n1 : np < 2 ^ 31 := by omega
  have n2 : nc < 2 ^ 31 := by omega
  have hb : inB (nI s) (nI ns) = true := by rw [inB_nI (by omega) (by omega)]; exact decide_eq_true hs
  have hv : inL (nI m).toInt64 1 40 = true := by
    rw [inL_t, Int32.toInt_toInt64, nI_toInt (by omega)]
    exact ⟨by show (1 : Int) ≤ _; omega, by show _ ≤ (40 : Int); omega⟩
  obtain ⟨G1, hG1⟩ : ∃ G : Nat → Int32, G = itr (fun p g => upd g p (nI (min 100 (knN z p + lnN z s m p)))) np (z.1 16) := ⟨_, rfl⟩
  obtain ⟨sn, sn1, sn2, sn3⟩ := q_siN h hs
  have c16 : ∀ (g : Nat → Int32) r, r ≠ 16 → setR z.1 16 g r = z.1 r := fun g r hr => setR_n hr _ _
  have c1617 : ∀ (g g' : Nat → Int32) r, r ≠ 16 → r ≠ 17 → setR (setR z.1 16 g) 17 g' r = z.1 r := fun g g' r h1 h2 => by rw [setR_n h2, setR_n h1]
  -- the first loop
  have loop1 := itr_eq (fun i g => Ev E (d + 3) zm_X8_rehearse 32 [some (.ref 0), some (.int (nI s)), some (.int (nI m)), some (.int (nI i)), none] [] (HP (setR z.1 16 g, z.2)) K) (fun p g => upd g p (nI (min 100 (knN z p + lnN z s m p)))) (z.1 16) np (fun i hi => by
    have hg : itr (fun p g => upd g p (nI (min 100 (knN z p + lnN z s m p)))) i (z.1 16) i = nI (knN z i) := by
      rw [itr_updv (fun p => nI (min 100 (knN z p + lnN z s m p))), if_neg (by omega)]
      exact (q_kn h hi).2.1
    generalize itr _ i _ = g at hg
    have hl := t_learned isT_1 (z := (setR z.1 16 g, z.2)) (wfS_c (o := 1 + 1) (c16 g 2 (by decide)) (rt_wf h)) E d (nI i) (nI s) (nI m)
    rw [lnZ_c (z := z) (c16 g), (q_ln h hi hs hm).1] at hl
    have hg2 : setR z.1 16 g 2 0 = nI np := by rw [c16 g 2 (by decide)]; exact hc.1
    have hg6 : setR z.1 16 g 16 i = nI (knN z i) := by rw [setR_s]; exact hg
    rw [e_X8_rehearse_32]
    simp only [↓e_X8_rehearse_4, ↓e_X8_rehearse_7, ↓e_X8_rehearse_11, ↓e_X8_rehearse_14, ↓e_X8_rehearse_18, ↓e_X8_rehearse_21, ↓e_X8_rehearse_29, ↓e_X8_rehearse_30, ↓e_X8_rehearse_37, ↓e_X8_rehearse_40, ↓e_X8_rehearse_43, ↓e_X8_rehearse_46, ↓e_X8_rehearse_50, ↓e_X8_rehearse_53, ↓e_X8_rehearse_58, ↓e_X8_rehearse_61, ↓e_X8_rehearse_63, ↓e_X8_rehearse_67, ↓e_X8_rehearse_73, ↓e_X8_rehearse_76, ↓e_X8_rehearse_77, ↓e_X8_rehearse_83, ↓e_X8_rehearse_87, ↓e_X8_rehearse_91, ↓e_X8_rehearse_101, ↓e_X8_rehearse_104, ↓e_X8_rehearse_107, ↓e_X8_rehearse_110, ↓e_X8_rehearse_119, ↓e_X8_rehearse_123, ↓e_X8_rehearse_126, ↓e_X8_rehearse_130, ↓e_X8_rehearse_133, ↓e_X8_rehearse_139, ↓e_X8_rehearse_143, g8 o8_0, g7 o7_1, g6 o6_2, v7 o7_1, Nat.reduceAdd, hg2, hg6, hl, x_knownWith E (d + 1) (q_kn h hi).2.2 (q_ln h hi hs hm).2, ri_k i16 (show i < 6 by omega) (by decide), wi_k i16 (show i < 6 by omega) (by decide), set2_R, setR_s, setR_2, zps_s, zk_i, zk_r, zk_n, nI_lt_iff (show i < 2 ^ 31 by omega) n1, hi, ↓reduceIte, nI_1])
  rw [← hG1, setR_id, nI_0] at loop1
  -- the second
  have loop2 := itr_eq (fun i g => Ev E (d + 3) zm_X8_rehearse 95 [some (.ref 0), some (.int (nI s)), some (.int (nI m)), some (.int (nI sn)), some (.int (nI i))] [] (HP (setR (setR z.1 16 G1) 17 g, z.2)) K) (fun c g => if sitB z np s (nI c) = true then upd g c (g c + nI m) else g) (z.1 17) nc (fun i hi => by
    generalize itr _ i _ = g
    have hg2 : setR (setR z.1 16 G1) 17 g 2 4 = nI nc := by rw [c1617 _ _ 2 (by decide) (by decide)]; exact hc.2.1
    have hbit : (nI sn >>> (nI i &&& 31) &&& 1 = 0) = (sitB z np s (nI i) = false) := by
      rw [bit0 (by omega), ← sn2, q_si h hs (by omega)]
    rw [e_X8_rehearse_95]
    simp only [↓e_X8_rehearse_4, ↓e_X8_rehearse_7, ↓e_X8_rehearse_11, ↓e_X8_rehearse_14, ↓e_X8_rehearse_18, ↓e_X8_rehearse_21, ↓e_X8_rehearse_29, ↓e_X8_rehearse_30, ↓e_X8_rehearse_37, ↓e_X8_rehearse_40, ↓e_X8_rehearse_43, ↓e_X8_rehearse_46, ↓e_X8_rehearse_50, ↓e_X8_rehearse_53, ↓e_X8_rehearse_58, ↓e_X8_rehearse_61, ↓e_X8_rehearse_63, ↓e_X8_rehearse_67, ↓e_X8_rehearse_73, ↓e_X8_rehearse_76, ↓e_X8_rehearse_77, ↓e_X8_rehearse_83, ↓e_X8_rehearse_87, ↓e_X8_rehearse_91, ↓e_X8_rehearse_101, ↓e_X8_rehearse_104, ↓e_X8_rehearse_107, ↓e_X8_rehearse_110, ↓e_X8_rehearse_119, ↓e_X8_rehearse_123, ↓e_X8_rehearse_126, ↓e_X8_rehearse_130, ↓e_X8_rehearse_133, ↓e_X8_rehearse_139, ↓e_X8_rehearse_143, g8 o8_0, g7 o7_1, g6 o6_2, Nat.reduceAdd, hg2, hbit, zk_i, zk_r, zk_n, nI_lt_iff (show i < 2 ^ 31 by omega) n2, hi, ↓reduceIte, nI_1]
    rcases Bool.eq_false_or_eq_true (sitB z np s (nI i)) with q | q
    · simp only [q, reduceCtorEq, ↓reduceIte, g8 o8_0, g7 o7_1, Nat.reduceAdd, ri_k i17 (show i < 6 by omega) (by decide), wi_k i17 (show i < 6 by omega) (by decide), set2_R, setR_s, setR_2, ↓e_X8_rehearse_4, ↓e_X8_rehearse_7, ↓e_X8_rehearse_11, ↓e_X8_rehearse_14, ↓e_X8_rehearse_18, ↓e_X8_rehearse_21, ↓e_X8_rehearse_29, ↓e_X8_rehearse_30, ↓e_X8_rehearse_37, ↓e_X8_rehearse_40, ↓e_X8_rehearse_43, ↓e_X8_rehearse_46, ↓e_X8_rehearse_50, ↓e_X8_rehearse_53, ↓e_X8_rehearse_58, ↓e_X8_rehearse_61, ↓e_X8_rehearse_63, ↓e_X8_rehearse_67, ↓e_X8_rehearse_73, ↓e_X8_rehearse_76, ↓e_X8_rehearse_77, ↓e_X8_rehearse_83, ↓e_X8_rehearse_87, ↓e_X8_rehearse_91, ↓e_X8_rehearse_101, ↓e_X8_rehearse_104, ↓e_X8_rehearse_107, ↓e_X8_rehearse_110, ↓e_X8_rehearse_119, ↓e_X8_rehearse_123, ↓e_X8_rehearse_126, ↓e_X8_rehearse_130, ↓e_X8_rehearse_133, ↓e_X8_rehearse_139, ↓e_X8_rehearse_143, zk_i, zk_r, zk_n, nI_1]
    · simp only [q, reduceCtorEq, ↓reduceIte])
  have s17 : setR (setR z.1 16 G1) 17 (z.1 17) = setR z.1 16 G1 := by
    have : setR z.1 16 G1 17 = z.1 17 := c16 G1 17 (by decide)
    rw [← this, setR_id]
  rw [s17, nI_0] at loop2
  have hsi := t_sitting isT_1 (z := (setR z.1 16 G1, z.2)) (wfS_c (o := 1 + 1) (c16 G1 2 (by decide)) (rt_wf h)) E d (nI s)
  rw [siZ_c (z := z) (c16 G1), sn2] at hsi
  have hg0 : setR z.1 16 G1 2 0 = nI np := by rw [c16 G1 2 (by decide)]; exact hc.1
  simp only [↓c_X8_rehearse, ↓e_X8_rehearse_0, ↓e_X8_rehearse_4, ↓e_X8_rehearse_7, ↓e_X8_rehearse_11, ↓e_X8_rehearse_14, ↓e_X8_rehearse_18, ↓e_X8_rehearse_21, ↓e_X8_rehearse_29, ↓e_X8_rehearse_30, ↓e_X8_rehearse_37, ↓e_X8_rehearse_40, ↓e_X8_rehearse_43, ↓e_X8_rehearse_46, ↓e_X8_rehearse_50, ↓e_X8_rehearse_53, ↓e_X8_rehearse_58, ↓e_X8_rehearse_61, ↓e_X8_rehearse_63, ↓e_X8_rehearse_67, ↓e_X8_rehearse_73, ↓e_X8_rehearse_76, ↓e_X8_rehearse_77, ↓e_X8_rehearse_83, ↓e_X8_rehearse_87, ↓e_X8_rehearse_91, ↓e_X8_rehearse_101, ↓e_X8_rehearse_104, ↓e_X8_rehearse_107, ↓e_X8_rehearse_110, ↓e_X8_rehearse_119, ↓e_X8_rehearse_123, ↓e_X8_rehearse_126, ↓e_X8_rehearse_130, ↓e_X8_rehearse_133, ↓e_X8_rehearse_139, ↓e_X8_rehearse_143, g8 o8_0, g7 o7_1, v6 o6_2, Nat.reduceAdd, s_hasScene o6_2, hc.2.2.1, hb, x_isMinutes, hv, zps_s, bI_0, zk_i, zk_r, zk_n, reduceCtorEq, ↓reduceIte]
  rw [loop1, e_X8_rehearse_32]
  simp only [↓e_X8_rehearse_4, ↓e_X8_rehearse_7, ↓e_X8_rehearse_11, ↓e_X8_rehearse_14, ↓e_X8_rehearse_18, ↓e_X8_rehearse_21, ↓e_X8_rehearse_29, ↓e_X8_rehearse_30, ↓e_X8_rehearse_37, ↓e_X8_rehearse_40, ↓e_X8_rehearse_43, ↓e_X8_rehearse_46, ↓e_X8_rehearse_50, ↓e_X8_rehearse_53, ↓e_X8_rehearse_58, ↓e_X8_rehearse_61, ↓e_X8_rehearse_63, ↓e_X8_rehearse_67, ↓e_X8_rehearse_73, ↓e_X8_rehearse_76, ↓e_X8_rehearse_77, ↓e_X8_rehearse_83, ↓e_X8_rehearse_87, ↓e_X8_rehearse_91, ↓e_X8_rehearse_101, ↓e_X8_rehearse_104, ↓e_X8_rehearse_107, ↓e_X8_rehearse_110, ↓e_X8_rehearse_119, ↓e_X8_rehearse_123, ↓e_X8_rehearse_126, ↓e_X8_rehearse_130, ↓e_X8_rehearse_133, ↓e_X8_rehearse_139, ↓e_X8_rehearse_143, g8 o8_0, g7 o7_1, g6 o6_2, v7 o7_1, Nat.reduceAdd, hg0, hsi, zps_s, zk_i, zk_r, zk_n, nI_lt_iff n1 n1, Nat.lt_irrefl, ↓reduceIte]
  rw [loop2, e_X8_rehearse_95]
  have hg4 : ∀ g, setR (setR z.1 16 G1) 17 g 2 4 = nI nc := fun g => by rw [c1617 _ _ 2 (by decide) (by decide)]; exact hc.2.1
  simp only [↓e_X8_rehearse_4, ↓e_X8_rehearse_7, ↓e_X8_rehearse_11, ↓e_X8_rehearse_14, ↓e_X8_rehearse_18, ↓e_X8_rehearse_21, ↓e_X8_rehearse_29, ↓e_X8_rehearse_30, ↓e_X8_rehearse_37, ↓e_X8_rehearse_40, ↓e_X8_rehearse_43, ↓e_X8_rehearse_46, ↓e_X8_rehearse_50, ↓e_X8_rehearse_53, ↓e_X8_rehearse_58, ↓e_X8_rehearse_61, ↓e_X8_rehearse_63, ↓e_X8_rehearse_67, ↓e_X8_rehearse_73, ↓e_X8_rehearse_76, ↓e_X8_rehearse_77, ↓e_X8_rehearse_83, ↓e_X8_rehearse_87, ↓e_X8_rehearse_91, ↓e_X8_rehearse_101, ↓e_X8_rehearse_104, ↓e_X8_rehearse_107, ↓e_X8_rehearse_110, ↓e_X8_rehearse_119, ↓e_X8_rehearse_123, ↓e_X8_rehearse_126, ↓e_X8_rehearse_130, ↓e_X8_rehearse_133, ↓e_X8_rehearse_139, ↓e_X8_rehearse_143, g8 o8_0, g7 o7_1, g6 o6_2, Nat.reduceAdd, hg4, J_bit E (d + 2) sn1, sn3, zps_s, zk_i, zk_r, zk_n, nI_lt_iff n2 n2, Nat.lt_irrefl, ↓reduceIte]
  rw [hG1]
theorem mv_to {r a q b : Nat} (hq : r ≠ q) (f : Nat → Nat → Int32) : ∀ n x, itr (mvF r a q b) n f r x = if a ≤ x ∧ x < a + n then f q (b + (x - a)) else f r x
  | 0, x => by
    rw [if_neg (by omega)]
    rfl
  | n + 1, x => by
    have ih := fun x => mv_to (r := r) (a := a) (q := q) (b := b) hq f n x
    show set2 (itr (mvF r a q b) n f) r (a + n) (itr (mvF r a q b) n f q (b + n)) r x = _
    by_cases e : x = a + n
    · subst e
      rw [set2_s, mv_r (Ne.symm hq), if_pos (by omega), show a + n - a = n by omega]
    · rw [set2_n (Or.inr e), ih x]
      by_cases q : a ≤ x ∧ x < a + n
      · rw [if_pos q, if_pos (by omega)]
      · rw [if_neg q, if_neg (by omega)]
theorem sitB_cc {z z' : zS} {n s : Nat} {c : Int32} (h : ∀ i, i < n → z'.1 130 (18 + i) = z.1 130 (18 + i)) (hm : z'.1 130 (90 + 2 * s + 1) = z.1 130 (90 + 2 * s + 1)) : sitB z' n s c = sitB z n s c := by
  have e : ∀ m, itr (hasF z' c m) n false = itr (hasF z c m) n false := fun m => itr_congr n (fun i hi => by
    unfold hasF
    rw [h i hi])
  unfold sitB
  rw [e, e, hm]
theorem itr_gt {z : zS} {np nc ns nl ny ch ea : Nat} (h : RT z.1 1 0 np nc ns nl ny ch ea) {s m : Nat} (hm : m ≤ 40) {k : Nat → Nat} {g : Nat → Int32} (hg : ∀ p, p < np → g p = nI (k p) ∧ k p ≤ 100) : ∀ n, n ≤ np → itr (gtF z s (nI m)) n g = itr (fun p g => upd g p (nI (min 100 (k p + lnN z s m p)))) n g
  | 0, _ => rfl
  | n + 1, hn => by
    have ih := itr_gt h (s := s) hm hg n (by omega)
    show gtF z s (nI m) n (itr (gtF z s (nI m)) n g) = upd (itr (fun p g => upd g p (nI (min 100 (k p + lnN z s m p)))) n g) n _
    rw [ih]
    refine q_gt h (by omega) hm ?_ (hg n (by omega)).2
    rw [itr_updv (fun p => nI (min 100 (k p + lnN z s m p))), if_neg (by omega)]
    exact (hg n (by omega)).1
theorem itr_an {z : zS} {np nc ns nl ny ch ea : Nat} (h : RT z.1 1 0 np nc ns nl ny ch ea) {k : Nat → Nat} {g : Nat → Int32} (hg : ∀ p, p < np → g p = nI (k p) ∧ k p ≤ 100) : ∀ n, n ≤ np → itr (anF z) n g = itr (fun p g => upd g p (nI (k p - k p * fdN z p / 20))) n g
  | 0, _ => rfl
  | n + 1, hn => by
    have ih := itr_an h hg n (by omega)
    show anF z n (itr (anF z) n g) = upd (itr (fun p g => upd g p (nI (k p - k p * fdN z p / 20))) n g) n _
    rw [ih]
    refine q_an h (by omega) ?_ (hg n (by omega)).2
    rw [itr_updv (fun p => nI (k p - k p * fdN z p / 20)), if_neg (by omega)]
    exact (hg n (by omega)).1
theorem gtF_c {z z' : zS} (h : z'.1 130 = z.1 130) (s : Nat) (m : Int32) : gtF z' s m = gtF z s m := by
  funext i g
  unfold gtF
  rw [h]
theorem anF_c {z z' : zS} (h : z'.1 130 = z.1 130) : anF z' = anF z := by
  funext i g
  unfold anF
  rw [h]
def siM (z : zS) (np s : Nat) (m : Int32) (c : Nat) : Int32 := if sitB z np s (nI c) = true then m else 0
def rsF (z : zS) (np s : Nat) (m : Int32) (c : Nat) (st : Nat × (Nat → Int32)) : Nat × (Nat → Int32) := (st.1 + (if sitB z np s (nI c) = true then 1 else 0), upd st.2 (84 + c) (st.2 (84 + c) + siM z np s m c))
theorem rsF_1 (z : zS) (np s : Nat) (m : Int32) (g : Nat → Int32) : ∀ n, (itr (rsF z np s m) n (0, g)).1 = siN z np n s
  | 0 => rfl
  | n + 1 => by
    show (itr (rsF z np s m) n (0, g)).1 + _ = cnt _ n + _
    rw [rsF_1 z np s m g n]
    rfl
theorem rsF_2 (z : zS) (np s : Nat) (m : Int32) (g : Nat → Int32) : ∀ n k, (itr (rsF z np s m) n (0, g)).2 k = if 84 ≤ k ∧ k < 84 + n then g k + siM z np s m (k - 84) else g k
  | 0, k => by
    rw [if_neg (by omega)]
    rfl
  | n + 1, k => by
    have ih := rsF_2 z np s m g n
    show upd (itr (rsF z np s m) n (0, g)).2 (84 + n) ((itr (rsF z np s m) n (0, g)).2 (84 + n) + siM z np s m n) k = _
    unfold upd
    by_cases e : k = 84 + n
    · subst e
      rw [if_pos rfl, ih, if_neg (by omega), if_pos (by omega), show 84 + n - 84 = n by omega]
    · rw [if_neg e, ih]
      by_cases q : 84 ≤ k ∧ k < 84 + n
      · rw [if_pos q, if_pos (by omega)]
      · rw [if_neg q, if_neg (by omega)]
/-- the reference's: what it answers, and the state then -/
theorem m_rehearse (E : zE) (d : Nat) {z z0 : zS} {np nc ns nl ny ch ea : Nat} (h : RT z.1 1 0 np nc ns nl ny ch ea) (h0 : z0.1 130 = z.1 130) {s m : Nat} (hs : s < ns) (m1 : 1 ≤ m) (hm : m ≤ 40) : ∃ z2 : zS, (∀ K, Cl E (d + 3) 178 [.ref 129, .int (nI s), .int (nI m)] (HP z0) K = K (some (.int (nI (siN z np nc s)))) (HP z2)) ∧ (∀ r, r ≠ 129 → r ≠ 130 → r ≠ 137 → z2.1 r = z0.1 r) ∧ z2.2 = z0.2 ∧ ∀ k, z2.1 130 k = if 30 ≤ k ∧ k < 30 + np then nI (min 100 (knN z (k - 30) + lnN z s m (k - 30))) else if 84 ≤ k ∧ k < 84 + nc then z.1 130 k + siM z np s (nI m) (k - 84) else z.1 130 k := by
  obtain ⟨hc, hmm, hn⟩ := rt_F h
  have n1 : np < 2 ^ 31 := by omega
  have n2 : nc < 2 ^ 31 := by omega
  have n3 : ns < 2 ^ 31 := by omega
  have hb : inB (nI s) (nI ns) = true := by rw [inB_nI (by omega) (by omega)]; exact decide_eq_true hs
  have hv : inL (nI m).toInt64 1 40 = true := by
    rw [inL_t, Int32.toInt_toInt64, nI_toInt (by omega)]
    exact ⟨by show (1 : Int) ≤ _; omega, by show _ ≤ (40 : Int); omega⟩
  -- takesKnown
  obtain ⟨f1, hf1⟩ : ∃ f : Nat → Nat → Int32, f = itr (mvF 137 0 130 30) 6 z0.1 := ⟨_, rfl⟩
  have a1 : ∀ r, r ≠ 137 → f1 r = z0.1 r := fun r hr => by rw [hf1, mv_r hr]
  have a2 : ∀ p, p < 6 → f1 137 p = z.1 130 (30 + p) := fun p hp => by rw [hf1, mv_to (by decide), if_pos (by omega), h0, Nat.sub_zero]
  have f130 : f1 130 = z.1 130 := by rw [a1 130 (by decide), h0]
  -- goesThrough
  have hgt := m_goesThrough E d (z := (f1, z0.2)) hn.1 hn.2.1 (show s < 7 by omega) (nI m) (show f1 130 104 = nI np by rw [f130]; exact hmm.1) (show f1 130 105 = nI nc by rw [f130]; exact hmm.2.1) (okC_c (z := z) f130.symm (q_okC h)) (fun i hi => by show (f1 130 (3 * i + 1) + 1 = 0) = False; rw [f130]; exact q_l1 h i hi)
  obtain ⟨f2, hf2⟩ : ∃ f : Nat → Nat → Int32, f = setR (setR f1 137 (itr (gtF (f1, z0.2) s (nI m)) np (f1 137))) 129 (upd (f1 129) 16 (itr (stF (f1, z0.2) np s (nI m)) nc (f1 129 16))) := ⟨_, rfl⟩
  rw [← hf2] at hgt
  have b1 : ∀ r, r ≠ 137 → r ≠ 129 → f2 r = z0.1 r := fun r h1 h2 => by rw [hf2, setR_n h2, setR_n h1, a1 r h1]
  have b2 : ∀ p, f2 137 p = if p < np then nI (min 100 (knN z p + lnN z s m p)) else f1 137 p := fun p => by
    rw [hf2, setR_n (by decide), setR_s, gtF_c (z := z) f130, itr_gt h (k := knN z) hm (fun q hq => by rw [a2 q (by omega)]; exact ⟨(q_kn h hq).1, (q_kn h hq).2.2⟩) np (Nat.le_refl _), itr_updv (fun p => nI (min 100 (knN z p + lnN z s m p)))]
  -- putsKnown
  obtain ⟨f3, hf3⟩ : ∃ f : Nat → Nat → Int32, f = itr (mvF 130 30 137 0) 6 f2 := ⟨_, rfl⟩
  have c1 : ∀ r, r ≠ 130 → f3 r = f2 r := fun r hr => by rw [hf3, mv_r hr]
  have c2 : ∀ k, f3 130 k = if 30 ≤ k ∧ k < 30 + np then nI (min 100 (knN z (k - 30) + lnN z s m (k - 30))) else z.1 130 k := fun k => by
    rw [hf3, mv_to (by decide), Nat.zero_add, b2, b1 130 (by decide) (by decide), h0]
    by_cases q : 30 ≤ k ∧ k < 30 + np
    · rw [if_pos q, if_pos (by omega), if_pos (by omega)]
    · rw [if_neg q]
      by_cases q2 : 30 ≤ k ∧ k < 30 + 6
      · rw [if_pos q2, if_neg (by omega), a2 _ (by omega), show 30 + (k - 30) = k by omega]
      · rw [if_neg q2]
  -- the loop
  have row : ∀ i, i ≤ nc → ∀ k, ¬ (84 ≤ k ∧ k < 90) → (itr (rsF z np s (nI m)) i (0, f3 130)).2 k = f3 130 k := fun i hi k hk => by rw [rsF_2, if_neg (by omega)]
  refine ⟨(setR f3 130 (itr (rsF z np s (nI m)) nc (0, f3 130)).2, z0.2), fun K => ?_, fun r h1 h2 h3 => ?_, rfl, fun k => ?_⟩
  · have loop := itr_eq (fun i (st : Nat × (Nat → Int32)) => Ev E (d + 3) zm_X9_rehearse 44 [some (.ref 129), some (.int (nI s)), some (.int (nI m)), some (.int (nI st.1)), some (.int (nI i))] [] (HP (setR f3 130 st.2, z0.2)) K) (rsF z np s (nI m)) (0, f3 130) nc (fun i hi => by
      have hrow := row i (by omega)
      generalize itr (rsF z np s (nI m)) i (0, f3 130) = st at hrow
      have r130 : ∀ k, setR f3 130 st.2 130 k = st.2 k := fun k => by rw [setR_s]
      have rk : ∀ k, ¬ (84 ≤ k ∧ k < 90) → ¬ (30 ≤ k ∧ k < 36) → st.2 k = z.1 130 k := fun k h1 h2 => by rw [hrow k h1, c2, if_neg (by omega)]
      have e105 : st.2 105 = nI nc := by rw [rk 105 (by omega) (by omega)]; exact hmm.2.1
      have e104 : setR f3 130 st.2 130 104 = nI np := by rw [r130, rk 104 (by omega) (by omega)]; exact hmm.1
      have e84 : (84 : Int32) + nI i = nI (84 + i) := nI_add 84 i
      have si := m_sits E (d + 1) (nI i) (z := (setR f3 130 st.2, z0.2)) hn.1 (show s < 7 by omega) e104
      rw [sitB_cc (z := z) (fun j hj => by show setR f3 130 st.2 130 (18 + j) = _; rw [r130, rk _ (by omega) (by omega)]) (by show setR f3 130 st.2 130 (90 + 2 * s + 1) = _; rw [r130, rk _ (by omega) (by omega)])] at si
      have eb : ∀ b : Bool, nI st.1 + bI b = nI (st.1 + (if b = true then 1 else 0)) := fun b => by
        cases b
        · exact nI_add st.1 0
        · exact nI_add st.1 1
      rw [e_X9_rehearse_44]
      simp only [↓e_X9_rehearse_5, ↓e_X9_rehearse_8, ↓e_X9_rehearse_17, ↓e_X9_rehearse_20, ↓e_X9_rehearse_24, ↓e_X9_rehearse_25, ↓e_X9_rehearse_29, ↓e_X9_rehearse_35, ↓e_X9_rehearse_39, ↓e_X9_rehearse_50, ↓e_X9_rehearse_53, ↓e_X9_rehearse_56, ↓e_X9_rehearse_64, ↓e_X9_rehearse_67, ↓e_X9_rehearse_73, ↓e_X9_rehearse_80, ↓e_X9_rehearse_87, ↓e_X9_rehearse_90, ↓e_X9_rehearse_94, ↓e_X9_rehearse_95, ↓e_X9_rehearse_97, ↓e_X9_rehearse_103, g9 o9_129, v9 o9_129, Nat.reduceAdd, stL, r130, e105, si, m_flag, e84, eb, st_k (show 84 + i < 1083 by omega), wi_k i130 (show 84 + i < 1083 by omega) (by decide), set2_R, setR_s, setR_2, zps_s, bI_0, zk_i, zk_r, zk_n, nI_lt_iff (show i < 2 ^ 31 by omega) n2, hi, ↓reduceIte, nI_1, rsF, siM]
      rcases Bool.eq_false_or_eq_true (sitB z np s (nI i)) with q | q <;> simp only [q, reduceCtorEq, ↓reduceIte])
    have tk := m_takesKnown E (d + 2) z0.1 z0.2
    rw [← hf1] at tk
    have pk := m_putsKnown E (d + 2) f2 z0.2
    rw [← hf3] at pk
    have e106 : z0.1 130 106 = nI ns := by rw [h0]; exact hmm.2.2.1
    rw [setR_id] at loop
    have nz : nI 0 = 0 := rfl
    simp only [nz] at loop
    simp only [↓c_X9_rehearse, ↓e_X9_rehearse_0, ↓e_X9_rehearse_5, ↓e_X9_rehearse_8, ↓e_X9_rehearse_17, ↓e_X9_rehearse_20, ↓e_X9_rehearse_24, ↓e_X9_rehearse_25, ↓e_X9_rehearse_29, ↓e_X9_rehearse_35, ↓e_X9_rehearse_39, ↓e_X9_rehearse_50, ↓e_X9_rehearse_53, ↓e_X9_rehearse_56, ↓e_X9_rehearse_64, ↓e_X9_rehearse_67, ↓e_X9_rehearse_73, ↓e_X9_rehearse_80, ↓e_X9_rehearse_87, ↓e_X9_rehearse_90, ↓e_X9_rehearse_94, ↓e_X9_rehearse_95, ↓e_X9_rehearse_97, ↓e_X9_rehearse_103, v9 o9_129, m_isScene E (d + 1) n3 e106, hb, m_in, hv, tk, hgt, pk, zps_s, zps_n, bI_0, zk_i, zk_r, zk_n, reduceCtorEq, ↓reduceIte]
    rw [loop, e_X9_rehearse_44]
    have e105 : (itr (rsF z np s (nI m)) nc (0, f3 130)).2 105 = nI nc := by rw [row nc (Nat.le_refl _) 105 (by omega), c2, if_neg (by omega)]; exact hmm.2.1
    simp only [↓e_X9_rehearse_5, ↓e_X9_rehearse_8, ↓e_X9_rehearse_17, ↓e_X9_rehearse_20, ↓e_X9_rehearse_24, ↓e_X9_rehearse_25, ↓e_X9_rehearse_29, ↓e_X9_rehearse_35, ↓e_X9_rehearse_39, ↓e_X9_rehearse_50, ↓e_X9_rehearse_53, ↓e_X9_rehearse_56, ↓e_X9_rehearse_64, ↓e_X9_rehearse_67, ↓e_X9_rehearse_73, ↓e_X9_rehearse_80, ↓e_X9_rehearse_87, ↓e_X9_rehearse_90, ↓e_X9_rehearse_94, ↓e_X9_rehearse_95, ↓e_X9_rehearse_97, ↓e_X9_rehearse_103, g9 o9_129, Nat.reduceAdd, stL, setR_s, e105, nI_lt_iff n2 n2, Nat.lt_irrefl, ↓reduceIte, rsF_1]
  · show setR f3 130 _ r = z0.1 r
    rw [setR_n h2, c1 r h2, b1 r h3 h1]
  · show setR f3 130 (itr (rsF z np s (nI m)) nc (0, f3 130)).2 130 k = _
    rw [setR_s, rsF_2, c2]
    by_cases q : 30 ≤ k ∧ k < 30 + np
    · simp only [q, and_self, ↓reduceIte]
      rw [if_neg (by omega)]
    · rw [if_neg q, if_neg q]
