/-! PLAN: prepare, find -/
theorem nar0 : vp_nar .boolean 0 = 0 := by decide
theorem wb_k0 {o n k : Nat} (ho : isZ o n) (hk : k < n) (hn : n < 2 ^ 31) (z : zS) (K : zH → Prop) : zwb (HP z) o (nI k) 0 K = K (HP (set2 z.1 o k 0, z.2)) := by
  rw [HP_wb ho, in_nI hk hn, nI_cl (by omega), true_and, nar0]
theorem i52 : isI 52 6 := rfl
theorem ra510 (z : zS) (K : Nat → Prop) : zra (HP z) 51 0 K = K 52 := ra51 (i := 0) (by decide) z K
theorem lnZ_c2 {z z' : zS} (h : ∀ r, r < 38 → z'.1 r = z.1 r) (p s m : Int32) : lnZ z' 1 p s m = lnZ z 1 p s m := by
  unfold lnZ plB
  simp only [Nat.reduceAdd]
  rw [h 14 (by decide), h 2 (by decide), h 13 (by decide), h 6 (by decide), h 4 (by decide)]
theorem fdZ_c2 {z z' : zS} (h : ∀ r, r < 38 → z'.1 r = z.1 r) (p : Int32) : fdZ z' 1 p = fdZ z 1 p := by
  unfold fdZ
  simp only [Nat.reduceAdd]
  rw [h 14 (by decide), h 2 (by decide), h 7 (by decide)]
theorem siZ_c2 {z z' : zS} (h : ∀ r, r < 38 → z'.1 r = z.1 r) (n : Nat) (s : Int32) : siZ z' 1 n s = siZ z 1 n s := by
  have e : siF z' 1 s = siF z 1 s := by
    funext i b
    unfold siF plB
    simp only [Nat.reduceAdd]
    rw [h 14 (by decide), h 2 (by decide), h 13 (by decide)]
  unfold siZ
  rw [e]
def Dq (f : Nat → Nat → Int32) (z : zS) (np nc ns m : Nat) : Prop := (∀ s, s < ns → ∀ p, p < np → f 48 (6 * s + p) = nI (lnN z s m p)) ∧ (∀ p, p < np → f 49 p = nI (fdN z p)) ∧ (∀ p, p < np → f 50 p = bI (decide (0 < z.1 130 (3 * p + 1)))) ∧ ∀ s, s < ns → f 57 s = nI (siN z np nc s)
set_option maxRecDepth 100000 in
theorem x_pprep (E : zE) (d : Nat) {z : zS} {np nc ns nl ny ch ea : Nat} (h : RT z.1 1 0 np nc ns nl ny ch ea) {m : Nat} (hm : m ≤ 40) (Q : Option Value → zH → Prop) (hQ : ∀ f : Nat → Nat → Int32, (∀ r, r ≠ 45 → r ≠ 48 → r ≠ 49 → r ≠ 50 → r ≠ 52 → r ≠ 57 → f r = z.1 r) → Dq f z np nc ns m → f 45 5 = nI ns → f 45 6 = nI np → (∀ p, p < np → f 52 p = nI (knN z p)) → Q none (HP (f, z.2))) : Cl E (d + 4) 38 [.ref 45, .ref 1, .int (nI m)] (HP z) Q := by
  obtain ⟨hc, hmm, hn⟩ := rt_F h
  have n1 : np < 2 ^ 31 := by omega
  have n2 : ns < 2 ^ 31 := by omega
  obtain ⟨f0, hf0⟩ : ∃ g : Nat → Nat → Int32, g = set2 (set2 z.1 45 6 (nI np)) 45 5 (nI ns) := ⟨_, rfl⟩
  have r0 : ∀ r, r ≠ 45 → f0 r = z.1 r := fun r hr => by rw [hf0, set2_a hr, set2_a hr]
  have a6 : f0 45 6 = nI np := by rw [hf0, set2_n (Or.inr (by decide)), set2_s]
  have a5 : f0 45 5 = nI ns := by rw [hf0, set2_s]
  -- the second loop
  have loop2 : ∀ k s (f : Nat → Nat → Int32) (x : Option Value), s + k = ns → (∀ r, r ≠ 48 → r ≠ 49 → r ≠ 50 → r ≠ 52 → r ≠ 57 → f r = f0 r) → (∀ p, p < np → f 52 p = nI (knN z p) ∧ f 49 p = nI (fdN z p) ∧ f 50 p = bI (decide (0 < z.1 130 (3 * p + 1)))) → (∀ s', s' < s → f 57 s' = nI (siN z np nc s') ∧ ∀ p, p < np → f 48 (6 * s' + p) = nI (lnN z s' m p)) → Ev E (d + 4) zm_X4_prepare 88 [some (.ref 45), some (.ref 1), some (.int (nI m)), some (.int (nI s)), x] [] (HP (f, z.2)) Q := by
    intro k
    induction k with
    | zero =>
      intro s f x hs hf hp hsc
      have e : s = ns := by omega
      subst e
      have b5 : f 45 5 = nI s := by rw [hf 45 (by decide) (by decide) (by decide) (by decide) (by decide)]; exact a5
      have b6 : f 45 6 = nI np := by rw [hf 45 (by decide) (by decide) (by decide) (by decide) (by decide)]; exact a6
      have q := hQ f (fun r h1 h2 h3 h4 h5 h6 => by rw [hf r h2 h3 h4 h5 h6, r0 r h1]) ⟨fun s' hs' => (hsc s' hs').2, fun p hp' => (hp p hp').2.1, fun p hp' => (hp p hp').2.2, fun s' hs' => (hsc s' hs').1⟩ b5 b6 (fun p hp' => (hp p hp').1)
      rw [e_X4_prepare_88]
      simp only [↓e_X4_prepare_5, ↓e_X4_prepare_8, ↓e_X4_prepare_11, ↓e_X4_prepare_16, ↓e_X4_prepare_19, ↓e_X4_prepare_22, ↓e_X4_prepare_29, ↓e_X4_prepare_32, ↓e_X4_prepare_36, ↓e_X4_prepare_38, ↓e_X4_prepare_43, ↓e_X4_prepare_45, ↓e_X4_prepare_46, ↓e_X4_prepare_50, ↓e_X4_prepare_56, ↓e_X4_prepare_57, ↓e_X4_prepare_61, ↓e_X4_prepare_66, ↓e_X4_prepare_69, ↓e_X4_prepare_71, ↓e_X4_prepare_74, ↓e_X4_prepare_78, ↓e_X4_prepare_79, ↓e_X4_prepare_80, ↓e_X4_prepare_86, ↓e_X4_prepare_93, ↓e_X4_prepare_96, ↓e_X4_prepare_100, ↓e_X4_prepare_106, ↓e_X4_prepare_109, ↓e_X4_prepare_110, ↓e_X4_prepare_119, ↓e_X4_prepare_122, ↓e_X4_prepare_126, ↓e_X4_prepare_141, ↓e_X4_prepare_142, ↓e_X4_prepare_148, ↓e_X4_prepare_154, g4 o4_45, Nat.reduceAdd, b5, nI_lt_iff n2 n2, Nat.lt_irrefl, ↓reduceIte]
      exact q
    | succ k ihk =>
      intro s f x hsk hf hp hsc
      have hs : s < ns := by omega
      have fz : ∀ r, r < 38 → f r = z.1 r := fun r hr => by rw [hf r (by omega) (by omega) (by omega) (by omega) (by omega), r0 r (by omega)]
      obtain ⟨sn, sn1, sn2, sn3⟩ := q_siN h hs
      have b5 : f 45 5 = nI ns := by rw [hf 45 (by decide) (by decide) (by decide) (by decide) (by decide)]; exact a5
      have hsi := t_sitting isT_1 (z := (f, z.2)) (wfS_c (z := z) (o := 1 + 1) (fz 2 (by decide)) (rt_wf h)) E (d + 1) (nI s)
      rw [siZ_c2 (z := z) fz, sn2] at hsi
      have jb := J_bit E (d + 3) sn1
      rw [sn3] at jb
      obtain ⟨f1, hf1⟩ : ∃ g : Nat → Nat → Int32, g = set2 f 57 s (nI (siN z np nc s)) := ⟨_, rfl⟩
      have r1 : ∀ r, r ≠ 57 → f1 r = f r := fun r hr => by rw [hf1, set2_a hr]
      have inner := itr_eq (fun i g => Ev E (d + 4) zm_X4_prepare 113 [some (.ref 45), some (.ref 1), some (.int (nI m)), some (.int (nI s)), some (.int (nI i))] [] (HP (setR f1 48 g, z.2)) Q) (fun p g => upd g (6 * s + p) (nI (lnN z s m p))) (f1 48) np (fun i hi => by
        generalize itr _ i _ = g
        have rr : ∀ r, r < 38 → setR f1 48 g r = z.1 r := fun r hr => by rw [setR_n (by omega), r1 r (by omega), fz r hr]
        have c6 : setR f1 48 g 45 6 = nI np := by rw [setR_n (by decide), r1 45 (by decide), hf 45 (by decide) (by decide) (by decide) (by decide) (by decide)]; exact a6
        have e6 : nI s * 6 + nI i = nI (6 * s + i) := by
          have : nI s * 6 = nI (s * 6) := nI_mul s 6
          rw [this, nI_add, Nat.mul_comm]
        have hl := t_learned isT_1 (z := (setR f1 48 g, z.2)) (wfS_c (z := z) (o := 1 + 1) (rr 2 (by decide)) (rt_wf h)) E (d + 1) (nI i) (nI s) (nI m)
        rw [lnZ_c2 (z := z) rr, (q_ln h hi hs hm).1] at hl
        rw [e_X4_prepare_113]
        simp only [↓e_X4_prepare_5, ↓e_X4_prepare_8, ↓e_X4_prepare_11, ↓e_X4_prepare_16, ↓e_X4_prepare_19, ↓e_X4_prepare_22, ↓e_X4_prepare_29, ↓e_X4_prepare_32, ↓e_X4_prepare_36, ↓e_X4_prepare_38, ↓e_X4_prepare_43, ↓e_X4_prepare_45, ↓e_X4_prepare_46, ↓e_X4_prepare_50, ↓e_X4_prepare_56, ↓e_X4_prepare_57, ↓e_X4_prepare_61, ↓e_X4_prepare_66, ↓e_X4_prepare_69, ↓e_X4_prepare_71, ↓e_X4_prepare_74, ↓e_X4_prepare_78, ↓e_X4_prepare_79, ↓e_X4_prepare_80, ↓e_X4_prepare_86, ↓e_X4_prepare_93, ↓e_X4_prepare_96, ↓e_X4_prepare_100, ↓e_X4_prepare_106, ↓e_X4_prepare_109, ↓e_X4_prepare_110, ↓e_X4_prepare_119, ↓e_X4_prepare_122, ↓e_X4_prepare_126, ↓e_X4_prepare_141, ↓e_X4_prepare_142, ↓e_X4_prepare_148, ↓e_X4_prepare_154, g4 o4_45, v7 o7_1, Nat.reduceAdd, c6, e6, hl, wi_k i48 (show 6 * s + i < 42 by omega) (by decide), set2_R, setR_s, setR_2, zps_s, zk_i, zk_r, zk_n, nI_lt_iff (show i < 2 ^ 31 by omega) n1, hi, ↓reduceIte, nI_1])
      rw [nI_0, setR_id] at inner
      obtain ⟨G, hG⟩ : ∃ G : Nat → Int32, G = itr (fun p g => upd g (6 * s + p) (nI (lnN z s m p))) np (f1 48) := ⟨_, rfl⟩
      rw [← hG] at inner
      have Gv : ∀ x, G x = if 6 * s ≤ x ∧ x < 6 * s + np then nI (lnN z s m (x - 6 * s)) else f1 48 x := fun x => by rw [hG, pts_in (fun p => nI (lnN z s m p))]
      have nx := ihk (s + 1) (setR f1 48 G) (some (.int (nI np))) (by omega) (fun r h1 h2 h3 h4 h5 => by rw [setR_n h1, r1 r h5, hf r h1 h2 h3 h4 h5]) (fun p hp' => by rw [setR_n (by decide), setR_n (by decide), setR_n (by decide), r1 52 (by decide), r1 49 (by decide), r1 50 (by decide)]; exact hp p hp') (fun s' hs' => by
        refine ⟨?_, fun p hp' => ?_⟩
        · rw [setR_n (by decide), hf1]
          by_cases e : s' = s
          · subst e
            rw [set2_s]
          · rw [set2_n (Or.inr e)]
            exact (hsc s' (by omega)).1
        · rw [setR_s, Gv]
          by_cases e : s' = s
          · subst e
            rw [if_pos (by omega), show 6 * s' + p - 6 * s' = p by omega]
          · rw [if_neg (by omega), r1 48 (by decide)]
            exact (hsc s' (by omega)).2 p hp')
      have c6 : setR f1 48 G 45 6 = nI np := by rw [setR_n (by decide), r1 45 (by decide), hf 45 (by decide) (by decide) (by decide) (by decide) (by decide)]; exact a6
      rw [e_X4_prepare_88]
      simp only [↓e_X4_prepare_5, ↓e_X4_prepare_8, ↓e_X4_prepare_11, ↓e_X4_prepare_16, ↓e_X4_prepare_19, ↓e_X4_prepare_22, ↓e_X4_prepare_29, ↓e_X4_prepare_32, ↓e_X4_prepare_36, ↓e_X4_prepare_38, ↓e_X4_prepare_43, ↓e_X4_prepare_45, ↓e_X4_prepare_46, ↓e_X4_prepare_50, ↓e_X4_prepare_56, ↓e_X4_prepare_57, ↓e_X4_prepare_61, ↓e_X4_prepare_66, ↓e_X4_prepare_69, ↓e_X4_prepare_71, ↓e_X4_prepare_74, ↓e_X4_prepare_78, ↓e_X4_prepare_79, ↓e_X4_prepare_80, ↓e_X4_prepare_86, ↓e_X4_prepare_93, ↓e_X4_prepare_96, ↓e_X4_prepare_100, ↓e_X4_prepare_106, ↓e_X4_prepare_109, ↓e_X4_prepare_110, ↓e_X4_prepare_119, ↓e_X4_prepare_122, ↓e_X4_prepare_126, ↓e_X4_prepare_141, ↓e_X4_prepare_142, ↓e_X4_prepare_148, ↓e_X4_prepare_154, g4 o4_45, v7 o7_1, Nat.reduceAdd, b5, hsi, jb, wi_k i57 (show s < 7 by omega) (by decide), ← hf1, zps_s, zk_i, zk_r, zk_n, nI_lt_iff (show s < 2 ^ 31 by omega) n2, hs, ↓reduceIte]
      rw [inner, e_X4_prepare_113]
      simp only [↓e_X4_prepare_5, ↓e_X4_prepare_8, ↓e_X4_prepare_11, ↓e_X4_prepare_16, ↓e_X4_prepare_19, ↓e_X4_prepare_22, ↓e_X4_prepare_29, ↓e_X4_prepare_32, ↓e_X4_prepare_36, ↓e_X4_prepare_38, ↓e_X4_prepare_43, ↓e_X4_prepare_45, ↓e_X4_prepare_46, ↓e_X4_prepare_50, ↓e_X4_prepare_56, ↓e_X4_prepare_57, ↓e_X4_prepare_61, ↓e_X4_prepare_66, ↓e_X4_prepare_69, ↓e_X4_prepare_71, ↓e_X4_prepare_74, ↓e_X4_prepare_78, ↓e_X4_prepare_79, ↓e_X4_prepare_80, ↓e_X4_prepare_86, ↓e_X4_prepare_93, ↓e_X4_prepare_96, ↓e_X4_prepare_100, ↓e_X4_prepare_106, ↓e_X4_prepare_109, ↓e_X4_prepare_110, ↓e_X4_prepare_119, ↓e_X4_prepare_122, ↓e_X4_prepare_126, ↓e_X4_prepare_141, ↓e_X4_prepare_142, ↓e_X4_prepare_148, ↓e_X4_prepare_154, g4 o4_45, Nat.reduceAdd, c6, zk_i, zk_r, zk_n, nI_lt_iff n1 n1, Nat.lt_irrefl, nI_1, ↓reduceIte]
      exact nx
  have loop1 : ∀ k i (f : Nat → Nat → Int32), i + k = np → (∀ r, r ≠ 49 → r ≠ 50 → r ≠ 52 → f r = f0 r) → (∀ p, p < i → f 52 p = nI (knN z p) ∧ f 49 p = nI (fdN z p) ∧ f 50 p = bI (decide (0 < z.1 130 (3 * p + 1)))) → Ev E (d + 4) zm_X4_prepare 24 [some (.ref 45), some (.ref 1), some (.int (nI m)), some (.int (nI i)), none] [] (HP (f, z.2)) Q := by
    intro k
    induction k with
    | zero =>
      intro i f hi hf hp
      have e : i = np := by omega
      subst e
      have b6 : f 45 6 = nI i := by rw [hf 45 (by decide) (by decide) (by decide)]; exact a6
      have nx := loop2 ns 0 f none (by omega) (fun r h1 h2 h3 h4 h5 => hf r h2 h3 h4) hp (fun s' hs' => by omega)
      rw [nI_0] at nx
      rw [e_X4_prepare_24]
      simp only [↓e_X4_prepare_5, ↓e_X4_prepare_8, ↓e_X4_prepare_11, ↓e_X4_prepare_16, ↓e_X4_prepare_19, ↓e_X4_prepare_22, ↓e_X4_prepare_29, ↓e_X4_prepare_32, ↓e_X4_prepare_36, ↓e_X4_prepare_38, ↓e_X4_prepare_43, ↓e_X4_prepare_45, ↓e_X4_prepare_46, ↓e_X4_prepare_50, ↓e_X4_prepare_56, ↓e_X4_prepare_57, ↓e_X4_prepare_61, ↓e_X4_prepare_66, ↓e_X4_prepare_69, ↓e_X4_prepare_71, ↓e_X4_prepare_74, ↓e_X4_prepare_78, ↓e_X4_prepare_79, ↓e_X4_prepare_80, ↓e_X4_prepare_86, ↓e_X4_prepare_93, ↓e_X4_prepare_96, ↓e_X4_prepare_100, ↓e_X4_prepare_106, ↓e_X4_prepare_109, ↓e_X4_prepare_110, ↓e_X4_prepare_119, ↓e_X4_prepare_122, ↓e_X4_prepare_126, ↓e_X4_prepare_141, ↓e_X4_prepare_142, ↓e_X4_prepare_148, ↓e_X4_prepare_154, g4 o4_45, Nat.reduceAdd, b6, zk_i, zk_r, zk_n, nI_lt_iff n1 n1, Nat.lt_irrefl, ↓reduceIte]
      exact nx
    | succ k ihk =>
      intro i f hik hf hp
      have hi : i < np := by omega
      have b6 : f 45 6 = nI np := by rw [hf 45 (by decide) (by decide) (by decide)]; exact a6
      have fz : ∀ r, r < 38 → f r = z.1 r := fun r hr => by rw [hf r (by omega) (by omega) (by omega), r0 r (by omega)]
      have b16 : f 16 i = nI (knN z i) := by rw [fz 16 (by decide)]; exact (q_kn h hi).2.1
      have fz52 : ∀ r, r < 38 → set2 f 52 i (nI (knN z i)) r = z.1 r := fun r hr => by rw [set2_a (by omega), fz r hr]
      have hl := t_fading isT_1 (z := (set2 f 52 i (nI (knN z i)), z.2)) (wfS_c (z := z) (o := 1 + 1) (fz52 2 (by decide)) (rt_wf h)) E (d + 2) (nI i)
      rw [fdZ_c2 (z := z) fz52, (q_fd h hi).1] at hl
      have b4 : set2 (set2 f 52 i (nI (knN z i))) 49 i (nI (fdN z i)) 4 i = z.1 130 (3 * i + 1) := by rw [set2_a (by decide), fz52 4 (by decide)]; exact (rt_P h hi).2.1
      have i4 : isI 4 6 := rfl
      have nx := fun (b : Bool) (hb : b = decide (0 < z.1 130 (3 * i + 1))) => ihk (i + 1) (set2 (set2 (set2 f 52 i (nI (knN z i))) 49 i (nI (fdN z i))) 50 i (bI b)) (by omega) (fun r h1 h2 h3 => by rw [set2_a h2, set2_a h1, set2_a h3, hf r h1 h2 h3]) (fun p hp' => by
        by_cases e : p = i
        · subst e
          refine ⟨?_, ?_, ?_⟩
          · rw [set2_a (by decide), set2_a (by decide), set2_s]
          · rw [set2_a (by decide), set2_s]
          · rw [set2_s, hb]
        · rw [set2_a (show (52 : Nat) ≠ 50 by decide), set2_a (show (52 : Nat) ≠ 49 by decide), set2_n (show (52 : Nat) ≠ 52 ∨ p ≠ i from Or.inr e), set2_a (show (49 : Nat) ≠ 50 by decide), set2_n (show (49 : Nat) ≠ 49 ∨ p ≠ i from Or.inr e), set2_a (show (49 : Nat) ≠ 52 by decide), set2_n (show (50 : Nat) ≠ 50 ∨ p ≠ i from Or.inr e), set2_a (show (50 : Nat) ≠ 49 by decide), set2_a (show (50 : Nat) ≠ 52 by decide)]
          exact hp p (by omega))
      by_cases q : 0 < z.1 130 (3 * i + 1)
      · have n' := nx true (decide_eq_true q).symm
        rw [bI_t] at n'
        rw [e_X4_prepare_24]
        simp only [↓e_X4_prepare_5, ↓e_X4_prepare_8, ↓e_X4_prepare_11, ↓e_X4_prepare_16, ↓e_X4_prepare_19, ↓e_X4_prepare_22, ↓e_X4_prepare_29, ↓e_X4_prepare_32, ↓e_X4_prepare_36, ↓e_X4_prepare_38, ↓e_X4_prepare_43, ↓e_X4_prepare_45, ↓e_X4_prepare_46, ↓e_X4_prepare_50, ↓e_X4_prepare_56, ↓e_X4_prepare_57, ↓e_X4_prepare_61, ↓e_X4_prepare_66, ↓e_X4_prepare_69, ↓e_X4_prepare_71, ↓e_X4_prepare_74, ↓e_X4_prepare_78, ↓e_X4_prepare_79, ↓e_X4_prepare_80, ↓e_X4_prepare_86, ↓e_X4_prepare_93, ↓e_X4_prepare_96, ↓e_X4_prepare_100, ↓e_X4_prepare_106, ↓e_X4_prepare_109, ↓e_X4_prepare_110, ↓e_X4_prepare_119, ↓e_X4_prepare_122, ↓e_X4_prepare_126, ↓e_X4_prepare_141, ↓e_X4_prepare_142, ↓e_X4_prepare_148, ↓e_X4_prepare_154, g4 o4_45, g7 o7_1, g6 o6_2, v7 o7_1, Nat.reduceAdd, b6, ra510, ri_k i16 (show i < 6 by omega) (by decide), b16, wi_k i52 (show i < 6 by omega) (by decide), hl, wi_k i49 (show i < 6 by omega) (by decide), ri_k i4 (show i < 6 by omega) (by decide), b4, q, wb_k z50 (show i < 6 by omega) (by decide), zps_s, zk_i, zk_r, zk_n, nI_lt_iff (show i < 2 ^ 31 by omega) n1, hi, ↓reduceIte, nI_1]
        exact n'
      · have n' := nx false (decide_eq_false q).symm
        rw [bI_f] at n'
        rw [e_X4_prepare_24]
        simp only [↓e_X4_prepare_5, ↓e_X4_prepare_8, ↓e_X4_prepare_11, ↓e_X4_prepare_16, ↓e_X4_prepare_19, ↓e_X4_prepare_22, ↓e_X4_prepare_29, ↓e_X4_prepare_32, ↓e_X4_prepare_36, ↓e_X4_prepare_38, ↓e_X4_prepare_43, ↓e_X4_prepare_45, ↓e_X4_prepare_46, ↓e_X4_prepare_50, ↓e_X4_prepare_56, ↓e_X4_prepare_57, ↓e_X4_prepare_61, ↓e_X4_prepare_66, ↓e_X4_prepare_69, ↓e_X4_prepare_71, ↓e_X4_prepare_74, ↓e_X4_prepare_78, ↓e_X4_prepare_79, ↓e_X4_prepare_80, ↓e_X4_prepare_86, ↓e_X4_prepare_93, ↓e_X4_prepare_96, ↓e_X4_prepare_100, ↓e_X4_prepare_106, ↓e_X4_prepare_109, ↓e_X4_prepare_110, ↓e_X4_prepare_119, ↓e_X4_prepare_122, ↓e_X4_prepare_126, ↓e_X4_prepare_141, ↓e_X4_prepare_142, ↓e_X4_prepare_148, ↓e_X4_prepare_154, g4 o4_45, g7 o7_1, g6 o6_2, v7 o7_1, Nat.reduceAdd, b6, ra510, ri_k i16 (show i < 6 by omega) (by decide), b16, wi_k i52 (show i < 6 by omega) (by decide), hl, wi_k i49 (show i < 6 by omega) (by decide), ri_k i4 (show i < 6 by omega) (by decide), b4, q, wb_k0 z50 (show i < 6 by omega) (by decide), zps_s, zk_i, zk_r, zk_n, nI_lt_iff (show i < 2 ^ 31 by omega) n1, hi, ↓reduceIte, nI_1]
        exact n'
  have start := loop1 np 0 f0 (by omega) (fun _ _ _ _ => rfl) (fun p hp => by omega)
  rw [nI_0] at start
  have a1 : ∀ (g : Nat → Nat → Int32) k x, set2 g 45 k x 2 = g 2 := fun g k x => set2_a (by decide)
  simp only [↓c_X4_prepare, ↓e_X4_prepare_0, ↓e_X4_prepare_5, ↓e_X4_prepare_8, ↓e_X4_prepare_11, ↓e_X4_prepare_16, ↓e_X4_prepare_19, ↓e_X4_prepare_22, ↓e_X4_prepare_29, ↓e_X4_prepare_32, ↓e_X4_prepare_36, ↓e_X4_prepare_38, ↓e_X4_prepare_43, ↓e_X4_prepare_45, ↓e_X4_prepare_46, ↓e_X4_prepare_50, ↓e_X4_prepare_56, ↓e_X4_prepare_57, ↓e_X4_prepare_61, ↓e_X4_prepare_66, ↓e_X4_prepare_69, ↓e_X4_prepare_71, ↓e_X4_prepare_74, ↓e_X4_prepare_78, ↓e_X4_prepare_79, ↓e_X4_prepare_80, ↓e_X4_prepare_86, ↓e_X4_prepare_93, ↓e_X4_prepare_96, ↓e_X4_prepare_100, ↓e_X4_prepare_106, ↓e_X4_prepare_109, ↓e_X4_prepare_110, ↓e_X4_prepare_119, ↓e_X4_prepare_122, ↓e_X4_prepare_126, ↓e_X4_prepare_141, ↓e_X4_prepare_142, ↓e_X4_prepare_148, ↓e_X4_prepare_154, g4 o4_45, p4 o4_45, g7 o7_1, g6 o6_2, Nat.reduceAdd, a1, hc.1, hc.2.2.1, ← hf0, zk_i, zk_r, zk_n]
  exact start
theorem x_pfind (E : zE) (d : Nat) {z : zS} {np nc ns nl ny ch ea : Nat} (h : RT z.1 1 0 np nc ns nl ny ch ea) {m dd : Nat} (hm : m ≤ 40) (hd1 : 1 ≤ dd) (hdd : dd ≤ 4) (hns : 0 < ns) : Hr E (d + 8) 37 [.ref 45, .ref 1, .int (nI dd), .int (nI m)] z (fun r z' => r = none ∧ z'.2 = z.2 ∧ (∀ r, r < 45 ∨ 57 < r → z'.1 r = z.1 r) ∧ ∃ o, Pk (fun _ => True) (scP z np nc ns m dd) (ns ^ dd) o ∧ SP z'.1 z np nc ns m dd o) := by
  unfold Hr
  generalize hQ : (fun (r : Option Value) (h : zH) => ∃ z' : zS, h = HP z' ∧ (r = none ∧ z'.2 = z.2 ∧ (∀ r, r < 45 ∨ 57 < r → z'.1 r = z.1 r) ∧ ∃ o, Pk (fun _ => True) (scP z np nc ns m dd) (ns ^ dd) o ∧ SP z'.1 z np nc ns m dd o)) = Q
  obtain ⟨r1, h1, ⟨f, hr, hf, hD, h5, h6, h52, eh⟩, e1⟩ := Cl_det (x_pprep E (d + 3) h hm (fun r h => ∃ f : Nat → Nat → Int32, r = none ∧ (∀ r, r ≠ 45 → r ≠ 48 → r ≠ 49 → r ≠ 50 → r ≠ 52 → r ≠ 57 → f r = z.1 r) ∧ Dq f z np nc ns m ∧ f 45 5 = nI ns ∧ f 45 6 = nI np ∧ (∀ p, p < np → f 52 p = nI (knN z p)) ∧ h = HP (f, z.2)) (fun f a b c e g => ⟨f, rfl, a, b, c, e, g, rfl⟩))
  subst hr
  obtain ⟨f2, hf2⟩ : ∃ g : Nat → Nat → Int32, g = set2 (set2 (set2 (set2 f 45 4 (nI dd)) 45 3 0) 45 0 0) 45 2 0 := ⟨_, rfl⟩
  have r2 : ∀ r, r ≠ 45 → f2 r = f r := fun r hr => by rw [hf2, set2_a hr, set2_a hr, set2_a hr, set2_a hr]
  have b4 : f2 45 4 = nI dd := by rw [hf2, set2_n (Or.inr (by decide)), set2_n (Or.inr (by decide)), set2_n (Or.inr (by decide)), set2_s]
  have b5 : ∀ i, 5 ≤ i → f2 45 i = f 45 i := fun i hi => by rw [hf2, set2_n (Or.inr (by omega)), set2_n (Or.inr (by omega)), set2_n (Or.inr (by omega)), set2_n (Or.inr (by omega))]
  have b3 : f2 45 3 = 0 := by rw [hf2, set2_n (Or.inr (by decide)), set2_n (Or.inr (by decide)), set2_s]
  have hD2 : Dp f2 z np nc ns m dd := ⟨b4, by rw [b5 5 (by decide)]; exact h5, by rw [b5 6 (by decide)]; exact h6, fun s hs p hp => by rw [r2 48 (by decide)]; exact hD.1 s hs p hp, fun p hp => by rw [r2 49 (by decide)]; exact hD.2.1 p hp, fun p hp => by rw [r2 50 (by decide)]; exact hD.2.2.1 p hp, fun s hs => by rw [r2 57 (by decide)]; exact hD.2.2.2 s hs⟩
  have pl := x_plf E (d + (5 - dd)) h hm hdd hns dd 0 0 f2 z.2 (by omega) hD2 (fun i hi => by omega) (fun p hp => by rw [r2 (52 + 0) (by decide)]; exact h52 p hp) ⟨none, by rw [Nat.zero_mul]; exact Pk_0 _ _, b3⟩
  rw [show d + (5 - dd) + dd + 2 = d + 7 by omega, nI_0, show siS z np nc (dg ns 0 0) 0 = 0 from rfl, nI_0] at pl
  obtain ⟨r, z3, ⟨hr, ht, hF3, o3, p3, s3⟩, e3⟩ := Hr_use pl
  subst hr
  have e4 : ((4 : Int32) < nI dd) = False := eq_false (nI_nlt (a := 4) (by omega) (by decide))
  have q : Q none (HP z3) := by
    rw [← hQ]
    refine ⟨z3, rfl, rfl, ht, fun r hr => ?_, o3, ?_, s3⟩
    · rw [hF3.1 r (by omega) (by omega) (by omega) (by omega), r2 r (by omega), hf r (by omega) (by omega) (by omega) (by omega) (by omega) (by omega)]
    · rw [Nat.zero_add, Nat.one_mul] at p3
      exact p3
  rw [eh] at e1
  simp only [↓c_X4_find, ↓e_X4_find_0, ↓e_X4_find_6, ↓e_X4_find_15, ↓e_X4_find_20, ↓e_X4_find_25, ↓e_X4_find_30, ↓e_X4_find_36, v4 o4_45, p4 o4_45, e1, e4, ← hf2, e3, zps_n, zk_i, zk_r, zk_n, ↓reduceIte]
  exact q
