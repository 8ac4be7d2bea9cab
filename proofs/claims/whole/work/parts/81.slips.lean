/-! SLIPS and CUT, on both sides -/
section RTS
variable {z : zS} {np nc ns nl ny ch ea : Nat}
theorem q_mm (h : RT z.1 1 0 np nc ns nl ny ch ea) {p : Nat} (hp : p < np) : ∃ n, n ≤ 140 ∧ mmM z ns (nI p) = nI n ∧ ∀ i, i < ns → bt (z.1 130 (90 + 2 * i + 1)) p = true → 0 < n := by
  obtain ⟨-, -, n1, -, n3, -⟩ := rt_F h
  have key : ∀ k, k ≤ ns → ∃ n, n ≤ 20 * k ∧ mmM z k (nI p) = nI n ∧ ∀ i, i < k → bt (z.1 130 (90 + 2 * i + 1)) p = true → 0 < n := by
    intro k
    induction k with
    | zero => exact fun _ => ⟨0, by omega, rfl, fun i hi => by omega⟩
    | succ k ih =>
      intro hk
      obtain ⟨n, hn, e, hpos⟩ := ih (by omega)
      obtain ⟨-, -, ⟨m, m1, m2, em⟩, -⟩ := rt_N h (show k < ns by omega)
      have e' : mmM z (k + 1) (nI p) = mmM z k (nI p) + (if bitC (z.1 130 (90 + 2 * k + 1)) (nI p) = true then z.1 130 (90 + 2 * k) else 0) := rfl
      rw [bitC_bt (by omega), e, em] at e'
      by_cases hb : bt (z.1 130 (90 + 2 * k + 1)) p = true
      · rw [if_pos hb, nI_add] at e'
        exact ⟨n + m, by omega, e', fun i _ _ => by omega⟩
      · rw [if_neg hb, Int32.add_zero] at e'
        refine ⟨n, by omega, e', fun i hi hbi => ?_⟩
        by_cases ei : i = k
        · subst ei
          exact absurd hbi hb
        · exact hpos i (by omega) hbi
  obtain ⟨n, hn, e, hpos⟩ := key ns (Nat.le_refl _)
  exact ⟨n, by omega, e, hpos⟩
theorem q_mm0 (h : RT z.1 1 0 np nc ns nl ny ch ea) {s : Nat} (hs : s < ns) : ∀ i, i < np → bitC (z.1 130 (90 + 2 * s + 1)) (nI i) = true → ¬ mmM z ns (nI i) = 0 := by
  intro i hi hb
  obtain ⟨-, -, n1, -⟩ := rt_F h
  obtain ⟨n, hn, e, hpos⟩ := q_mm h hi
  rw [bitC_bt (by omega)] at hb
  rw [e]
  exact nI_ne0 (hpos s hs hb) (by omega)
theorem q_sl (h : RT z.1 1 0 np nc ns nl ny ch ea) {s : Nat} (hs : s < ns) (hv : Int32) : slZ z 1 np ns (nI s) hv = itr (smF z ns s hv) np 0 := by
  obtain ⟨-, -, n1, -, n3, -⟩ := rt_F h
  unfold slZ
  refine itr_congr np (fun i hi => ?_)
  generalize itr _ i _ = b
  obtain ⟨n, hn, e, hpos⟩ := q_mm h hi
  obtain ⟨p1, p2, p3, p4, p5, p6, -⟩ := rt_P h hi
  unfold slF slA smF
  rw [show plB z (1 + 1) (nI s) (nI i) = bitC (z.1 130 (90 + 2 * s + 1)) (nI i) from q_plC h hs hi, show minZ z (1 + 1) (nI i) ns 0 = mmM z ns (nI i) from q_min h hi, e, show z.1 (1 + 1 + 2) i = z.1 130 (3 * i + 1) from p2, show z.1 (1 + 15) i = z.1 130 (30 + i) from p6, nI_cl (by omega), show z.1 (1 + 1 + 10) s = z.1 130 (90 + 2 * s) from (rt_N h hs).1]
  by_cases hb : bitC (z.1 130 (90 + 2 * s + 1)) (nI i) = true
  · have hp : (0 : Int32) < nI n := nI_lt (a := 0) (hpos s hs (by rw [← bitC_bt (by omega)]; exact hb)) (by omega)
    simp only [hb, ↓reduceIte, hp]
  · simp only [hb, ↓reduceIte, Int32.lt_irrefl, reduceCtorEq]
theorem q_al (h : RT z.1 1 0 np nc ns nl ny ch ea) (hv : Int32) : alZ z 1 np ns hv = itr (fun s b => b + itr (smF z ns s hv) np 0) ns 0 := by
  unfold alZ
  refine itr_congr ns (fun i hi => ?_)
  generalize itr _ i _ = b
  rw [q_sl h hi]
end RTS
theorem op_slips (E : zE) (d : Nat) {z : zS} (hI : Inv z) (s : Int32) : OpI E (d + 5) 99 185 [.int s] z := by
  obtain ⟨⟨np, nc, ns, nl, ny, ch, ea, h⟩, -⟩ := id hI
  obtain ⟨hc, hm, hn⟩ := rt_F h
  have n1 : ns < 2 ^ 31 := by omega
  by_cases h1 : s = -1
  · subst h1
    refine ⟨alZ z 1 np ns (-1), z, z, fun K => ?_, fun K => ?_, hI⟩
    · simp only [↓c_X8_slips, ↓e_X8_slips_0, ↓e_X8_slips_5, ↓e_X8_slips_9, ↓e_X8_slips_13, ↓e_X8_slips_14, ↓e_X8_slips_18, ↓e_X8_slips_21, ↓e_X8_slips_25, ↓e_X8_slips_28, ↓e_X8_slips_32, ↓e_X8_slips_37, ↓e_X8_slips_40, ↓e_X8_slips_48, g8 o8_0, v7 o7_1, Nat.reduceAdd, t_allSlips isT_1 (rt_wf h), zps_s, zk_i, zk_r, zk_n, ↓reduceIte]
    · simp only [↓c_X9_slips, ↓e_X9_slips_0, ↓e_X9_slips_5, ↓e_X9_slips_10, ↓e_X9_slips_13, ↓e_X9_slips_18, ↓e_X9_slips_21, ↓e_X9_slips_27, ↓e_X9_slips_30, ↓e_X9_slips_34, v9 o9_129, m_allSlips E (d + 1) hn.1 hn.2.2.1 (-1) hm.1 hm.2.2.1 (fun s hs => q_mm0 h hs), zps_s, zk_i, zk_r, zk_n, ↓reduceIte, q_al h]
  · by_cases hb : inB s (nI ns) = true
    · obtain ⟨j, hj, rfl⟩ := of_inB rfl n1 hb
      refine ⟨slZ z 1 np ns (nI j) (-1), z, z, fun K => ?_, fun K => ?_, hI⟩
      · simp only [↓c_X8_slips, ↓e_X8_slips_0, ↓e_X8_slips_5, ↓e_X8_slips_9, ↓e_X8_slips_13, ↓e_X8_slips_14, ↓e_X8_slips_18, ↓e_X8_slips_21, ↓e_X8_slips_25, ↓e_X8_slips_28, ↓e_X8_slips_32, ↓e_X8_slips_37, ↓e_X8_slips_40, ↓e_X8_slips_48, g8 o8_0, g7 o7_1, v7 o7_1, v6 o6_2, Nat.reduceAdd, s_hasScene o6_2, hc.2.2.1, hb, h1, t_sceneSlips isT_1 (rt_wf h), zps_s, bI_0, zk_i, zk_r, zk_n, reduceCtorEq, ↓reduceIte]
      · simp only [↓c_X9_slips, ↓e_X9_slips_0, ↓e_X9_slips_5, ↓e_X9_slips_10, ↓e_X9_slips_13, ↓e_X9_slips_18, ↓e_X9_slips_21, ↓e_X9_slips_27, ↓e_X9_slips_30, ↓e_X9_slips_34, v9 o9_129, m_isScene E (d + 3) n1 hm.2.2.1, hb, h1, m_slipsOf E (d + 2) hn.1 hn.2.2.1 (show j < 7 by omega) (-1) hm.1 hm.2.2.1 (q_mm0 h hj), zps_s, bI_0, zk_i, zk_r, zk_n, reduceCtorEq, ↓reduceIte, q_sl h hj]
    · refine op_ref hI 0 (-2) (fun K => ?_) (fun z1 K hr e => ?_)
      · simp only [↓c_X8_slips, ↓e_X8_slips_0, ↓e_X8_slips_5, ↓e_X8_slips_9, ↓e_X8_slips_13, ↓e_X8_slips_14, ↓e_X8_slips_18, ↓e_X8_slips_21, ↓e_X8_slips_25, ↓e_X8_slips_28, ↓e_X8_slips_32, ↓e_X8_slips_37, ↓e_X8_slips_40, ↓e_X8_slips_48, g8 o8_0, g7 o7_1, v7 o7_1, v6 o6_2, v8 o8_0, Nat.reduceAdd, s_hasScene o6_2, hc.2.2.1, inB_f n1 hb, h1, zps_s, bI_0, x_bad, zk_i, zk_r, zk_n, ↓reduceIte]
      · simp only [↓c_X9_slips, ↓e_X9_slips_0, ↓e_X9_slips_5, ↓e_X9_slips_10, ↓e_X9_slips_13, ↓e_X9_slips_18, ↓e_X9_slips_21, ↓e_X9_slips_27, ↓e_X9_slips_30, ↓e_X9_slips_34, v9 o9_129, m_isScene E (d + 3) n1 (show z1.1 130 106 = nI ns by rw [hr 130 (by decide)]; exact hm.2.2.1), inB_f n1 hb, h1, m_bad, zps_s, bI_0, zk_i, zk_r, zk_n, ↓reduceIte]
def cuF (al : Nat → Int32) (i : Nat) (b : Int32 × Int32) : Int32 × Int32 := if b.1 = -1 ∨ al i < b.2 then (nI i, al i) else b
theorem op_cut (E : zE) (d : Nat) {z : zS} (hI : Inv z) : OpI E (d + 5) 100 186 [] z := by
  obtain ⟨⟨np, nc, ns, nl, ny, ch, ea, h⟩, -⟩ := id hI
  obtain ⟨hc, hm, hn⟩ := rt_F h
  have n1 : np < 2 ^ 31 := by omega
  refine ⟨(itr (cuF (fun i => alZ z 1 np ns (nI i))) np (-1, 0)).1, z, z, fun K => ?_, fun K => ?_, hI⟩
  · have loop := itr_junk (fun i (b : Int32 × Int32) (x : Option Value) => Ev E (d + 5) zm_X8_cut 6 [some (.ref 0), some (.int b.1), some (.int b.2), some (.int (nI i)), x] [] (HP z) K) (cuF (fun i => alZ z 1 np ns (nI i))) (-1, 0) np (fun i x hi => ⟨some (.int (alZ z 1 np ns (nI i))), by
      generalize itr _ i _ = b
      show Ev E (d + 5) zm_X8_cut 6 _ _ _ _ = _
      rw [e_X8_cut_6]
      simp only [↓e_X8_cut_11, ↓e_X8_cut_14, ↓e_X8_cut_17, ↓e_X8_cut_20, ↓e_X8_cut_24, ↓e_X8_cut_28, ↓e_X8_cut_35, ↓e_X8_cut_41, ↓e_X8_cut_46, ↓e_X8_cut_52, g8 o8_0, g7 o7_1, g6 o6_2, v7 o7_1, Nat.reduceAdd, hc.1, t_allSlips isT_1 (rt_wf h), zps_s, zk_i, zk_r, zk_n, nI_lt_iff (show i < 2 ^ 31 by omega) n1, hi, ↓reduceIte, nI_1, cuF]
      by_cases h1 : b.1 = -1
      · simp only [h1, true_or, ↓reduceIte]
      · by_cases h2 : alZ z 1 np ns (nI i) < b.2
        · simp only [h1, h2, or_true, ↓reduceIte]
        · simp only [h1, h2, or_self, ↓reduceIte]⟩) (fun x => by
      show Ev E (d + 5) zm_X8_cut 6 _ _ _ _ = K (some (.int (itr (cuF (fun i => alZ z 1 np ns (nI i))) np (-1, 0)).1)) (HP z)
      rw [e_X8_cut_6]
      simp only [↓e_X8_cut_11, ↓e_X8_cut_14, ↓e_X8_cut_17, ↓e_X8_cut_20, ↓e_X8_cut_24, ↓e_X8_cut_28, ↓e_X8_cut_35, ↓e_X8_cut_41, ↓e_X8_cut_46, ↓e_X8_cut_52, g8 o8_0, g7 o7_1, g6 o6_2, Nat.reduceAdd, hc.1, nI_lt_iff n1 n1, Nat.lt_irrefl, ↓reduceIte])
    simp only [↓c_X8_cut, ↓e_X8_cut_0, ↓e_X8_cut_11, ↓e_X8_cut_14, ↓e_X8_cut_17, ↓e_X8_cut_20, ↓e_X8_cut_24, ↓e_X8_cut_28, ↓e_X8_cut_35, ↓e_X8_cut_41, ↓e_X8_cut_46, ↓e_X8_cut_52, zk_i, zk_r, zk_n]
    exact loop none
  · have loop := itr_junk (fun i (b : Int32 × Int32) (x : Option Value × Option Value) => Ev E (d + 5) zm_X9_cut 6 [some (.ref 129), some (.int b.1), some (.int b.2), some (.int (nI i)), x.1, x.2] [] (HP z) K) (cuF (fun i => alZ z 1 np ns (nI i))) (-1, 0) np (fun i x hi => ⟨(some (.int (alZ z 1 np ns (nI i))), some (.int (if (itr (cuF (fun i => alZ z 1 np ns (nI i))) i (-1, 0)).1 = -1 ∨ alZ z 1 np ns (nI i) < (itr (cuF (fun i => alZ z 1 np ns (nI i))) i (-1, 0)).2 then 1 else 0))), by
      generalize itr _ i _ = b
      show Ev E (d + 5) zm_X9_cut 6 _ _ _ _ = _
      rw [e_X9_cut_6]
      simp only [↓e_X9_cut_11, ↓e_X9_cut_14, ↓e_X9_cut_17, ↓e_X9_cut_22, ↓e_X9_cut_29, ↓e_X9_cut_35, ↓e_X9_cut_39, ↓e_X9_cut_40, ↓e_X9_cut_47, ↓e_X9_cut_51, ↓e_X9_cut_52, ↓e_X9_cut_58, ↓e_X9_cut_63, ↓e_X9_cut_64, ↓e_X9_cut_71, g9 o9_129, v9 o9_129, Nat.reduceAdd, stL, hm.1, m_allSlips E (d + 1) hn.1 hn.2.2.1 (nI i) hm.1 hm.2.2.1 (fun s hs => q_mm0 h hs), ← q_al h, zps_s, zk_i, zk_r, zk_n, nI_lt_iff (show i < 2 ^ 31 by omega) n1, hi, ↓reduceIte, nI_1, cuF]
      by_cases h1 : b.1 = -1
      · simp only [h1, true_or, i01, ↓reduceIte]
      · by_cases h2 : alZ z 1 np ns (nI i) < b.2
        · simp only [h1, h2, or_true, i01, ↓reduceIte]
        · simp only [h1, h2, or_self, ↓reduceIte]⟩) (fun x => by
      show Ev E (d + 5) zm_X9_cut 6 _ _ _ _ = K (some (.int (itr (cuF (fun i => alZ z 1 np ns (nI i))) np (-1, 0)).1)) (HP z)
      rw [e_X9_cut_6]
      simp only [↓e_X9_cut_11, ↓e_X9_cut_14, ↓e_X9_cut_17, ↓e_X9_cut_22, ↓e_X9_cut_29, ↓e_X9_cut_35, ↓e_X9_cut_39, ↓e_X9_cut_40, ↓e_X9_cut_47, ↓e_X9_cut_51, ↓e_X9_cut_52, ↓e_X9_cut_58, ↓e_X9_cut_63, ↓e_X9_cut_64, ↓e_X9_cut_71, g9 o9_129, Nat.reduceAdd, stL, hm.1, nI_lt_iff n1 n1, Nat.lt_irrefl, ↓reduceIte])
    simp only [↓c_X9_cut, ↓e_X9_cut_0, ↓e_X9_cut_11, ↓e_X9_cut_14, ↓e_X9_cut_17, ↓e_X9_cut_22, ↓e_X9_cut_29, ↓e_X9_cut_35, ↓e_X9_cut_39, ↓e_X9_cut_40, ↓e_X9_cut_47, ↓e_X9_cut_51, ↓e_X9_cut_52, ↓e_X9_cut_58, ↓e_X9_cut_63, ↓e_X9_cut_64, ↓e_X9_cut_71, zk_i, zk_r, zk_n]
    exact loop (none, none)
