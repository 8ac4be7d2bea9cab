/-! CastSearch: search -/
theorem x_search (E : zE) (d : Nat) {f : Nat → Nat → Int32} {t : (Nat → Nat → Int64) × Nat} {n np ea : Nat} {cm : Nat → Int32} {aw : Int32} {pts : Nat → Nat → Int} (hn : n ≤ 6) (hnp : np ≤ 6) (hea : ea ≤ 1) (hb : ∀ p, p < np → ∀ c, c < n → -1000 ≤ pts p c ∧ pts p c ≤ 1000) (h : D0 f n np cm aw ea pts) : Hr E (d + 8) 6 [.ref 38] (f, t) (fun r z' => ∃ o : Option Nat, r = some (.int (bI o.isSome)) ∧ z'.2 = t ∧ (∀ r, r < 38 ∨ 44 < r → z'.1 r = f r) ∧ Pk (Vd n np cm aw ea) (scd n np pts) (n ^ np) o ∧ SR z'.1 n np pts o) := by
  obtain ⟨h3, h4, h5, h6, h40, h42, h44⟩ := h
  have mb := fun p (hp : p < np) => mxv_bd (aw := aw) (hb p hp)
  have hO : Ok n np ea aw pts (ceI (mxv n aw pts) np) (mxv n aw pts) := by
    refine ⟨hn, hnp, hea, hb, fun p hp => ?_, ceI_n (Nat.le_refl _), fun p hp => ceI_s hp, fun p hp => (mb p hp).2⟩
    have := cek_bd (fun p hp => (mb p hp).1) (np - p) (by omega)
    unfold ceI
    omega
  obtain ⟨f0, hf0⟩ : ∃ g : Nat → Nat → Int32, g = set2 (set2 (set2 f 38 0 0) 38 1 0) 41 6 0 := ⟨_, rfl⟩
  have r0 : ∀ r, r ≠ 38 → r ≠ 41 → f0 r = f r := fun r h1 h2 => by rw [hf0, set2_a h2, set2_a h1, set2_a h1]
  have r38 : ∀ i, 2 ≤ i → f0 38 i = f 38 i := fun i hi => by rw [hf0, set2_a (by decide), set2_n (Or.inr (by omega)), set2_n (Or.inr (by omega))]
  have r00 : f0 38 0 = 0 := by rw [hf0, set2_a (by decide), set2_n (Or.inr (by decide)), set2_s]
  have w6 : ∀ (z : zS) (x : Int32) (K : zH → Prop), zwi (HP z) 41 6 x K = K (HP (set2 z.1 41 6 x, z.2)) := fun z x K => wi_k (k := 6) i41 (by decide) (by decide) z x K
  have e5 : (5 : Int32) = nI 6 - 1 := by decide
  unfold Hr
  simp only [↓c_X0_search, ↓e_X0_search_0, ↓e_X0_search_5, ↓e_X0_search_10, ↓e_X0_search_14, ↓e_X0_search_18, ↓e_X0_search_24, ↓e_X0_search_28, ↓e_X0_search_33, ↓e_X0_search_37, ↓e_X0_search_42, ↓e_X0_search_45, ↓e_X0_search_50, ↓e_X0_search_53, ↓e_X0_search_54, ↓e_X0_search_56, ↓e_X0_search_62, ↓e_X0_search_69, ↓e_X0_search_73, ↓e_X0_search_77, ↓e_X0_search_80, ↓e_X0_search_81, ↓e_X0_search_84, ↓e_X0_search_88, p0 o0_38, g0 o0_38, Nat.reduceAdd, w6, ← hf0, zk_i, zk_r, zk_n]
  rw [e5]
  refine x_ceil E (d + 6) (aw := aw) t hn hnp hb _ 6 f0 (Nat.le_refl _) (by rw [r38 3 (by decide)]; exact h3) (by rw [r38 4 (by decide)]; exact h4) (by rw [r38 5 (by decide)]; exact h5) (fun p hp c hc => by rw [r0 40 (by decide) (by decide)]; exact h40 p hp c hc) (fun p h1 h2 => ?_) (fun f1 a b => ?_)
  · have e : p = 6 := by omega
    subst e
    rw [hf0, set2_s, ceI_n hnp]
    rfl
  · have q38 : f1 38 = f0 38 := a 38 (by decide)
    have hDt : Dt f1 n np cm aw ea pts (ceI (mxv n aw pts) np) := by
      refine ⟨by rw [q38, r38 3 (by decide)]; exact h3, by rw [q38, r38 4 (by decide)]; exact h4, by rw [q38, r38 5 (by decide)]; exact h5, by rw [q38, r38 6 (by decide)]; exact h6, fun p hp c hc => by rw [a 40 (by decide), r0 40 (by decide) (by decide)]; exact h40 p hp c hc, fun p hp => b p (by omega), fun p hp => by rw [a 42 (by decide), r0 42 (by decide) (by decide)]; exact h42 p hp⟩
    have hpre : Pre f1 n 0 0 := ⟨fun p hp => by omega, fun c hc p hp => by
      rw [a 44 (by decide), r0 44 (by decide) (by decide), h44 c (by omega), b_0]
      simp⟩
    have hcf := x_cf E (d + (6 - np)) (cm := cm) hO np 0 0 f1 t (by omega) (Or.inr ⟨rfl, rfl⟩) hDt hpre (fun a ha => by omega) (fun a ha => by omega) ⟨none, by rw [Nat.zero_mul]; exact Pk_0 _ _, by show f1 38 0 = 0; rw [q38]; exact r00⟩
    rw [show d + (6 - np) + np + 1 = d + 7 by omega, show sm (fun p => pts p (dg n 0 0 p)) 0 = 0 from rfl, un_0, show iI 0 = 0 from rfl, nI_0] at hcf
    obtain ⟨r, z3, ⟨hr, ht, hF3, o3, p3, s3⟩, e3⟩ := Hr_use hcf
    subst hr
    have e1 : f1 38 6 = nI ea := hDt.2.2.2.1
    have e4 : f1 38 4 = nI n := hDt.2.1
    have e30 : z3.1 38 0 = bI o3.isSome := by
      cases o3 with
      | none => exact s3
      | some j => exact s3.1
    have post : ∃ z', HP z3 = HP z' ∧ ∃ o : Option Nat, some (Value.int (bI o3.isSome)) = some (.int (bI o.isSome)) ∧ z'.2 = t ∧ (∀ r, r < 38 ∨ 44 < r → z'.1 r = f r) ∧ Pk (Vd n np cm aw ea) (scd n np pts) (n ^ np) o ∧ SR z'.1 n np pts o := by
      refine ⟨z3, rfl, o3, rfl, ht, fun r hr => ?_, ?_, s3⟩
      · rw [hF3.1 r (by omega) (by omega) (by omega), a r (by omega), r0 r (by omega) (by omega)]
      · rw [Nat.zero_add, Nat.one_mul] at p3
        exact p3
    by_cases he : ea = 1
    · subst he
      rw [if_pos rfl] at e3
      rw [show nI 1 = 1 from rfl] at e1
      simp only [↓e_X0_search_5, ↓e_X0_search_10, ↓e_X0_search_14, ↓e_X0_search_18, ↓e_X0_search_24, ↓e_X0_search_28, ↓e_X0_search_33, ↓e_X0_search_37, ↓e_X0_search_42, ↓e_X0_search_45, ↓e_X0_search_50, ↓e_X0_search_53, ↓e_X0_search_54, ↓e_X0_search_56, ↓e_X0_search_62, ↓e_X0_search_69, ↓e_X0_search_73, ↓e_X0_search_77, ↓e_X0_search_80, ↓e_X0_search_81, ↓e_X0_search_84, ↓e_X0_search_88, g0 o0_38, v0 o0_38, Nat.reduceAdd, e1, e4, e3, e30, bI_01, true_and, zps_n, zk_i, zk_r, zk_n, ↓reduceIte]
      exact post
    · rw [if_neg he, nI_0] at e3
      have e10 : (f1 38 6 = 1) = False := by
        rw [e1, show ea = 0 by omega]
        exact i10
      simp only [↓e_X0_search_5, ↓e_X0_search_10, ↓e_X0_search_14, ↓e_X0_search_18, ↓e_X0_search_24, ↓e_X0_search_28, ↓e_X0_search_33, ↓e_X0_search_37, ↓e_X0_search_42, ↓e_X0_search_45, ↓e_X0_search_50, ↓e_X0_search_53, ↓e_X0_search_54, ↓e_X0_search_56, ↓e_X0_search_62, ↓e_X0_search_69, ↓e_X0_search_73, ↓e_X0_search_77, ↓e_X0_search_80, ↓e_X0_search_81, ↓e_X0_search_84, ↓e_X0_search_88, g0 o0_38, v0 o0_38, Nat.reduceAdd, e10, e3, e30, bI_01, true_and, zps_n, zk_i, zk_r, zk_n, ↓reduceIte]
      exact post
/-- prepare, for the state at 1 -/
theorem x_prep (E : zE) (d : Nat) {z : zS} {np nc ns nl ny ch ea : Nat} (h : RT z.1 1 0 np nc ns nl ny ch ea) (aw ev : Int32) : ∃ f : Nat → Nat → Int32, (∀ K, Cl E (d + 5) 5 [.ref 38, .ref 1, .int aw, .int ev] (HP z) K = K none (HP (f, z.2))) ∧ f 38 3 = nI np ∧ f 38 4 = nI nc ∧ f 38 5 = aw ∧ f 38 6 = ev ∧ (∀ p, p < np → f 42 p = lcrow z np ns ch p) ∧ (∀ c, c < 6 → f 44 c = 0) ∧ ∀ r, r ≠ 38 → r ≠ 42 → r ≠ 44 → f r = z.1 r := by
  obtain ⟨hc, hm, hn⟩ := rt_F h
  obtain ⟨f0, hf0⟩ : ∃ g : Nat → Nat → Int32, g = set2 (set2 (set2 (set2 z.1 38 3 (nI np)) 38 4 (nI nc)) 38 5 aw) 38 6 ev := ⟨_, rfl⟩
  have r0 : ∀ r, r ≠ 38 → f0 r = z.1 r := fun r hr => by rw [hf0, set2_a hr, set2_a hr, set2_a hr, set2_a hr]
  have fc := s_fillClashes (o := 2) (r := 42) isS_2 i42 (by decide) (by decide) (z := (f0, z.2)) (np := np) (nc := nc) (ns := ns) (wfS_c (z := z) (o := 2) (r0 2 (by decide)) (rt_wf h)) E d (ch := ch) hn.2.2.2.1
  obtain ⟨G, hG⟩ : ∃ G : Nat → Int32, G = itr (fun a g => upd g a (clrow (f0, z.2) 2 np ns ch a)) np (f0 42) := ⟨_, rfl⟩
  rw [show ((f0, z.2) : zS).1 = f0 from rfl, show ((f0, z.2) : zS).2 = z.2 from rfl, ← hG] at fc
  have G42 : ∀ p, p < np → G p = lcrow z np ns ch p := fun p hp => by
    rw [hG, itr_updv (fun a => clrow (f0, z.2) 2 np ns ch a), if_pos hp, ← q_clr h hp]
    unfold clrow
    refine itr_congr np (fun b hb => ?_)
    rw [clB_c (z' := z) (r0 2 (by decide)) (r0 13 (by decide))]
  obtain ⟨f1, hf1⟩ : ∃ g : Nat → Nat → Int32, g = setR f0 42 G := ⟨_, rfl⟩
  have r1 : ∀ r, r ≠ 42 → f1 r = f0 r := fun r hr => by rw [hf1, setR_n hr]
  refine ⟨setR f1 44 (itr (fun i g => upd g i 0) 6 (f1 44)), fun K => ?_, ?_, ?_, ?_, ?_, fun p hp => ?_, fun c hc => ?_, fun r h1 h2 h3 => ?_⟩
  · have l := itr_eq (fun i g => Ev E (d + 5) zm_X0_prepare 50 [some (.ref 38), some (.ref 1), some (.int aw), some (.int ev), some (.int (nI i))] [] (HP (setR f1 44 g, z.2)) K) (fun i g => upd g i 0) (f1 44) 6 (fun i hi => by
      generalize itr _ i _ = g
      rw [e_X0_prepare_50]
      simp only [↓e_X0_prepare_5, ↓e_X0_prepare_8, ↓e_X0_prepare_11, ↓e_X0_prepare_16, ↓e_X0_prepare_19, ↓e_X0_prepare_22, ↓e_X0_prepare_27, ↓e_X0_prepare_32, ↓e_X0_prepare_36, ↓e_X0_prepare_40, ↓e_X0_prepare_44, ↓e_X0_prepare_47, ↓e_X0_prepare_56, ↓e_X0_prepare_57, ↓e_X0_prepare_60, ↓e_X0_prepare_64, ↓e_X0_prepare_68, ↓e_X0_prepare_74, g0 o0_38, Nat.reduceAdd, HP_al i44, wi_k i44 hi (by decide), set2_R, setR_s, setR_2, zk_i, zk_r, zk_n, nI_lt_iff (show i < 2 ^ 31 by omega) (show 6 < 2 ^ 31 by decide), hi, ↓reduceIte, nI_1])
    rw [nI_0, setR_id] at l
    have e5 : f0 1 5 = nI ch := by rw [r0 1 (by decide)]; exact hc.2.2.2.1
    have a1 : ∀ (g : Nat → Nat → Int32) k x, set2 g 38 k x 2 = g 2 := fun g k x => set2_a (by decide)
    have a2 : ∀ (g : Nat → Nat → Int32) k x, set2 g 38 k x 1 = g 1 := fun g k x => set2_a (by decide)
    simp only [↓c_X0_prepare, ↓e_X0_prepare_0, ↓e_X0_prepare_5, ↓e_X0_prepare_8, ↓e_X0_prepare_11, ↓e_X0_prepare_16, ↓e_X0_prepare_19, ↓e_X0_prepare_22, ↓e_X0_prepare_27, ↓e_X0_prepare_32, ↓e_X0_prepare_36, ↓e_X0_prepare_40, ↓e_X0_prepare_44, ↓e_X0_prepare_47, ↓e_X0_prepare_56, ↓e_X0_prepare_57, ↓e_X0_prepare_60, ↓e_X0_prepare_64, ↓e_X0_prepare_68, ↓e_X0_prepare_74, g0 o0_38, p0 o0_38, g7 o7_1, g6 o6_2, v6 o6_2, Nat.reduceAdd, a1, hc.1, hc.2.1, ← hf0, e5, fc, ← hf1, zps_n, zk_i, zk_r, zk_n]
    rw [l, e_X0_prepare_50]
    simp only [↓e_X0_prepare_5, ↓e_X0_prepare_8, ↓e_X0_prepare_11, ↓e_X0_prepare_16, ↓e_X0_prepare_19, ↓e_X0_prepare_22, ↓e_X0_prepare_27, ↓e_X0_prepare_32, ↓e_X0_prepare_36, ↓e_X0_prepare_40, ↓e_X0_prepare_44, ↓e_X0_prepare_47, ↓e_X0_prepare_56, ↓e_X0_prepare_57, ↓e_X0_prepare_60, ↓e_X0_prepare_64, ↓e_X0_prepare_68, ↓e_X0_prepare_74, g0 o0_38, Nat.reduceAdd, HP_al i44, nI_lt_iff (show 6 < 2 ^ 31 by decide) (show 6 < 2 ^ 31 by decide), Nat.lt_irrefl, ↓reduceIte]
  · rw [setR_n (by decide), r1 38 (by decide), hf0, set2_n (Or.inr (by decide)), set2_n (Or.inr (by decide)), set2_n (Or.inr (by decide)), set2_s]
  · rw [setR_n (by decide), r1 38 (by decide), hf0, set2_n (Or.inr (by decide)), set2_n (Or.inr (by decide)), set2_s]
  · rw [setR_n (by decide), r1 38 (by decide), hf0, set2_n (Or.inr (by decide)), set2_s]
  · rw [setR_n (by decide), r1 38 (by decide), hf0, set2_s]
  · rw [setR_n (by decide), hf1, setR_s, G42 p hp]
  · rw [setR_s, itr_updv (fun _ => 0), if_pos hc]
  · rw [setR_n h3, r1 r h2, r0 r h1]
