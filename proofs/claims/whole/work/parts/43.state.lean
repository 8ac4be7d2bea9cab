/-! class State: its methods over HP -/
/-- a loop whose junk locals differ from turn to turn -/
theorem itr_junk {σ τ : Type} (W : Nat → σ → τ → Prop) (f : Nat → σ → σ) (s : σ) {R : Prop} (n : Nat) (hs : ∀ i x, i < n → ∃ x', W i (itr f i s) x = W (i + 1) (f i (itr f i s)) x') (he : ∀ x, W n (itr f n s) x = R) (x : τ) : W 0 s x = R := by
  have h : ∀ k, k ≤ n → ∃ x', W 0 s x = W k (itr f k s) x' := by
    intro k
    induction k with
    | zero => exact fun _ => ⟨x, rfl⟩
    | succ k ih =>
      intro hk
      obtain ⟨x1, h1⟩ := ih (by omega)
      obtain ⟨x2, h2⟩ := hs k x1 (by omega)
      exact ⟨x2, h1.trans h2⟩
  obtain ⟨x', h'⟩ := h n (Nat.le_refl n)
  exact h'.trans (he x')
/-- a state stands at o -/
def isT (o : Nat) : Prop := isO7 o ∧ isS (o + 1) ∧ isI (o + 13) 6 ∧ isI (o + 14) 6 ∧ isI (o + 15) 6 ∧ isI (o + 16) 6 ∧ isI (o + 17) 240 ∧ isI (o + 18) 10
theorem isT_1 : isT 1 := ⟨o7_1, isS_2, rfl, rfl, rfl, rfl, rfl, rfl⟩
theorem isT_91 : isT 91 := ⟨o7_91, isS_92, rfl, rfl, rfl, rfl, rfl, rfl⟩
theorem isT_110 : isT 110 := ⟨o7_110, isS_111, rfl, rfl, rfl, rfl, rfl, rfl⟩
theorem rT {o : Nat} (h : isT o) : (∀ (E : zE) (z : zS) (i : Int32) (K : Int32 → Prop), zri E (HP z) (o + 13) i K = (vp_in i 6 ∧ K (z.1 (o + 13) i.toNatClampNeg))) ∧ (∀ (E : zE) (z : zS) (i : Int32) (K : Int32 → Prop), zri E (HP z) (o + 14) i K = (vp_in i 6 ∧ K (z.1 (o + 14) i.toNatClampNeg))) ∧ (∀ (E : zE) (z : zS) (i : Int32) (K : Int32 → Prop), zri E (HP z) (o + 15) i K = (vp_in i 6 ∧ K (z.1 (o + 15) i.toNatClampNeg))) ∧ (∀ (E : zE) (z : zS) (i : Int32) (K : Int32 → Prop), zri E (HP z) (o + 16) i K = (vp_in i 6 ∧ K (z.1 (o + 16) i.toNatClampNeg))) ∧ (∀ (E : zE) (z : zS) (i : Int32) (K : Int32 → Prop), zri E (HP z) (o + 17) i K = (vp_in i 240 ∧ K (z.1 (o + 17) i.toNatClampNeg))) ∧ (∀ (E : zE) (z : zS) (i : Int32) (K : Int32 → Prop), zri E (HP z) (o + 18) i K = (vp_in i 10 ∧ K (z.1 (o + 18) i.toNatClampNeg))) := by
  obtain ⟨-, -, h1, h2, h3, h4, h5, h6⟩ := h
  exact ⟨fun _ _ _ _ => HP_ri h1, fun _ _ _ _ => HP_ri h2, fun _ _ _ _ => HP_ri h3, fun _ _ _ _ => HP_ri h4, fun _ _ _ _ => HP_ri h5, fun _ _ _ _ => HP_ri h6⟩
theorem wT {o : Nat} (h : isT o) : (∀ (z : zS) (i x : Int32) (K : zH → Prop), zwi (HP z) (o + 13) i x K = (vp_in i 6 ∧ K (HP (set2 z.1 (o + 13) i.toNatClampNeg x, z.2)))) ∧ (∀ (z : zS) (i x : Int32) (K : zH → Prop), zwi (HP z) (o + 14) i x K = (vp_in i 6 ∧ K (HP (set2 z.1 (o + 14) i.toNatClampNeg x, z.2)))) ∧ (∀ (z : zS) (i x : Int32) (K : zH → Prop), zwi (HP z) (o + 15) i x K = (vp_in i 6 ∧ K (HP (set2 z.1 (o + 15) i.toNatClampNeg x, z.2)))) ∧ (∀ (z : zS) (i x : Int32) (K : zH → Prop), zwi (HP z) (o + 16) i x K = (vp_in i 6 ∧ K (HP (set2 z.1 (o + 16) i.toNatClampNeg x, z.2)))) ∧ (∀ (z : zS) (i x : Int32) (K : zH → Prop), zwi (HP z) (o + 17) i x K = (vp_in i 240 ∧ K (HP (set2 z.1 (o + 17) i.toNatClampNeg x, z.2)))) ∧ (∀ (z : zS) (i x : Int32) (K : zH → Prop), zwi (HP z) (o + 18) i x K = (vp_in i 10 ∧ K (HP (set2 z.1 (o + 18) i.toNatClampNeg x, z.2)))) := by
  obtain ⟨-, -, h1, h2, h3, h4, h5, h6⟩ := h
  exact ⟨fun _ _ _ _ => HP_wi h1, fun _ _ _ _ => HP_wi h2, fun _ _ _ _ => HP_wi h3, fun _ _ _ _ => HP_wi h4, fun _ _ _ _ => HP_wi h5, fun _ _ _ _ => HP_wi h6⟩
theorem t_addByte {o : Nat} (hT : isT o) {n : Nat} (hn : n < 240) {z : zS} (hz : z.1 o 8 = nI n) (E : zE) (d : Nat) (b : Int32) (K : Option Value → zH → Prop) : Cl E d 75 [.ref o, .int b] (HP z) K = K none (HP (set2 (set2 z.1 (o + 17) n b) o 8 (nI (n + 1)), z.2)) := by
  have ho := hT.1
  simp only [↓c_X7_addByte, ↓e_X7_addByte_0, ↓e_X7_addByte_4, ↓e_X7_addByte_7, ↓e_X7_addByte_11, ↓e_X7_addByte_17, ↓e_X7_addByte_21, ↓e_X7_addByte_25, ↓e_X7_addByte_27, ↓e_X7_addByte_32, ↓e_X7_addByte_37, g7 ho, p7 ho, wT hT, hz, zk_i, zk_r, zk_n, nI_neg (show n < 2 ^ 31 by omega), lt_lit (n := 240) (x := 240) (by decide) (show n < 2 ^ 31 by omega) (by decide), hn, ↓reduceIte, nI_cl (show n < 2 ^ 31 by omega), in_nI (show n < 240 by omega) (by decide), true_and, set2_n (show o ≠ o + 17 ∨ 8 ≠ n from Or.inl (by omega)), nI_1]
theorem mx1_0 (l : Int32) : ((if 0 < l then l else 0) + 1 = 0) = False := by
  refine propext ⟨fun h => ?_, False.elim⟩
  split at h
  · rename_i hl
    have e : l = -1 := by
      rw [← Int32.add_sub_cancel l 1, h]
      decide
    subst e
    exact absurd hl (by decide)
  · exact absurd h (by decide)
def lnZ (z : zS) (o : Nat) (p s m : Int32) : Int32 := if (plB z (o + 1) s p && inB (z.1 (o + 13) p.toNatClampNeg) (z.1 (o + 1) 4)) = true then 10 * z.1 (o + 1 + 4) (z.1 (o + 13) p.toNatClampNeg).toNatClampNeg * m / ((if 0 < z.1 (o + 1 + 2) p.toNatClampNeg then z.1 (o + 1 + 2) p.toNatClampNeg else 0) + 1) else 0
theorem t_learned {o : Nat} (hT : isT o) {np nc ns : Nat} {z : zS} (hw : wfS z (o + 1) np nc ns) (E : zE) (d : Nat) (p s m : Int32) (K : Option Value → zH → Prop) : Cl E (d + 2) 77 [.ref o, .int p, .int s, .int m] (HP z) K = K (some (.int (lnZ z o p s m))) (HP z) := by
  have ho := hT.1
  have hS := hT.2.1
  have hs := hS.1
  simp only [↓c_X7_learned, ↓e_X7_learned_0, ↓e_X7_learned_4, ↓e_X7_learned_9, ↓e_X7_learned_12, ↓e_X7_learned_16, ↓e_X7_learned_20, ↓e_X7_learned_22, ↓e_X7_learned_25, ↓e_X7_learned_28, ↓e_X7_learned_30, ↓e_X7_learned_36, ↓e_X7_learned_39, ↓e_X7_learned_43, ↓e_X7_learned_45, ↓e_X7_learned_46, ↓e_X7_learned_54, ↓e_X7_learned_57, ↓e_X7_learned_59, ↓e_X7_learned_65, g7 ho, v7 ho, g6 hs, v6 hs, s_plays hS hw, s_hasChild hs, rT hT, rS hS, zps_s, bI_0, zk_i, zk_r, zk_n, lnZ]
  cases hb : plB z (o + 1) s p
  · simp only [Bool.false_and, Bool.false_eq_true, ↓reduceIte]
  · have hp : vp_in p 6 := by
      unfold plB at hb
      simp only [Bool.and_eq_true] at hb
      exact in_inB hw.1 hw.2.2.2.1 (by decide) hb.1.2
    cases hc : inB (z.1 (o + 13) p.toNatClampNeg) (z.1 (o + 1) 4)
    · simp only [Bool.and_false, Bool.true_eq_false, Bool.false_eq_true, ↓reduceIte, hp, hc, true_and]
    · have hq : vp_in (z.1 (o + 13) p.toNatClampNeg) 6 := in_inB hw.2.1 hw.2.2.2.2.1 (by decide) hc
      simp only [Bool.and_true, Bool.true_eq_false, ↓reduceIte, hp, hc, hq, true_and, mx1_0, not_false_eq_true]
def fdZ (z : zS) (o : Nat) (p : Int32) : Int32 := if (inB p (z.1 (o + 1) 0) && inB (z.1 (o + 13) p.toNatClampNeg) (z.1 (o + 1) 4)) = true then z.1 (o + 1 + 5) (z.1 (o + 13) p.toNatClampNeg).toNatClampNeg else 0
theorem t_fading {o : Nat} (hT : isT o) {np nc ns : Nat} {z : zS} (hw : wfS z (o + 1) np nc ns) (E : zE) (d : Nat) (p : Int32) (K : Option Value → zH → Prop) : Cl E (d + 1) 78 [.ref o, .int p] (HP z) K = K (some (.int (fdZ z o p))) (HP z) := by
  have ho := hT.1
  have hS := hT.2.1
  have hs := hS.1
  simp only [↓c_X7_fading, ↓e_X7_fading_0, ↓e_X7_fading_4, ↓e_X7_fading_8, ↓e_X7_fading_11, ↓e_X7_fading_15, ↓e_X7_fading_19, ↓e_X7_fading_21, ↓e_X7_fading_24, ↓e_X7_fading_27, ↓e_X7_fading_31, ↓e_X7_fading_34, ↓e_X7_fading_38, ↓e_X7_fading_40, ↓e_X7_fading_41, ↓e_X7_fading_44, ↓e_X7_fading_45, g7 ho, v7 ho, g6 hs, v6 hs, s_hasPart hs, s_hasChild hs, rT hT, rS hS, zps_s, bI_0, zk_i, zk_r, zk_n, fdZ]
  cases hb : inB p (z.1 (o + 1) 0)
  · simp only [Bool.false_and, Bool.false_eq_true, ↓reduceIte]
  · have hp : vp_in p 6 := in_inB hw.1 hw.2.2.2.1 (by decide) hb
    cases hc : inB (z.1 (o + 13) p.toNatClampNeg) (z.1 (o + 1) 4)
    · simp only [Bool.and_false, Bool.true_eq_false, Bool.false_eq_true, ↓reduceIte, hp, hc, true_and]
    · have hq : vp_in (z.1 (o + 13) p.toNatClampNeg) 6 := in_inB hw.2.1 hw.2.2.2.2.1 (by decide) hc
      simp only [Bool.and_true, Bool.true_eq_false, ↓reduceIte, hp, hc, hq, true_and]
