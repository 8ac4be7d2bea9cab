/-! READ: the whole text, in the class -/
def noT (s : zSh) : Bool := match s with
  | .inr (_, fs) => fs.all (fun f => decide (f ≠ some 9999))
  | .inl _ => true
theorem noT_all : ∀ a, a < 140 → a ≠ 24 → (match zlay[a]? with | some s => noT s | none => true) = true := by decide +kernel
theorem zlay_len : zlay.length = 140 := by decide +kernel
theorem zcell_t {f : Nat → Nat → Int32} {g : Nat → Nat → Int64} {u u' o : Nat} {s : zSh} (h : noT s = true) : zcell (f, g, u) o s = zcell (f, g, u') o s := by
  cases s with
  | inl x =>
    obtain ⟨t, n, rs⟩ := x
    rcases t with _ | _ | _ | _ | _ | t <;> rfl
  | inr x =>
    obtain ⟨ci, fs⟩ := x
    unfold zcell
    refine congrArg (fun l => Sum.inr (ci, l)) ?_
    refine List.ext_getElem? (fun k => ?_)
    rw [List.getElem?_mapIdx, List.getElem?_mapIdx]
    cases hk : fs[k]? with
    | none => rfl
    | some v =>
      have hm : v ∈ fs := List.mem_of_getElem? hk
      have hv : v ≠ some 9999 := by
        have := (List.all_eq_true.mp h) v hm
        exact of_decide_eq_true this
      show some (zfld (f, g, u) o ci k v) = some (zfld (f, g, u') o ci k v)
      unfold zfld
      cases v with
      | none => rfl
      | some r =>
        have hr : r ≠ 9999 := fun e => hv (by rw [e])
        simp only [hr, ↓reduceIte]
theorem p5t (f : Nat → Nat → Int32) (g : Nat → Nat → Int64) (u : Nat) (K : zH → Prop) : zpf (HP (f, g, u)) 24 5 1 (.ref 18) K = K (HP (f, g, 18)) := by
  refine HP_pf o5_24.2 (by decide) (by decide) (fun j v hv => ?_) (fun a _ => ⟨rfl, rfl⟩) (fun a _ q ha hq => ?_)
  · rcases j with _ | _ | _ | _ | _ | _ | _ | j
    all_goals first | (cases hv; rfl) | skip
    simp at hv
  · refine zcell_t ?_
    have h1 : a < 140 := by
      have := (List.getElem?_eq_some_iff.mp hq).1
      rw [zlay_len] at this
      exact this
    have := noT_all a h1 ha
    rw [hq] at this
    exact this
section RT10
variable {tx : Nat → Int32} {nl : Nat}
abbrev Dr : Type := (Nat → Int32) × Nat × Nat × Nat
def StepD (tx : Nat → Int32) (S : Dr) (i : Nat) (S' : Dr) (i' : Nat) : Prop := StepP tx S.1 S.2.1 S.2.2.1 S.2.2.2 i S'.1 S'.2.1 S'.2.2.1 S'.2.2.2 i'
def FailD (tx : Nat → Int32) (S : Dr) (i s : Nat) : Prop := FailP tx S.2.1 S.2.2.1 S.2.2.2 i s
def DRS (f : Nat → Nat → Int32) (S : Dr) : Prop := DRf f S.1 S.2.1 S.2.2.1 S.2.2.2
def RunP (tx : Nat → Int32) : Nat → Dr → Nat → Dr → Nat → Prop
  | 0, S, i, S', i' => S' = S ∧ i' = i
  | n + 1, S, i, S', i' => ∃ S1 i1, StepD tx S i S1 i1 ∧ RunP tx n S1 i1 S' i'
def Dz : Nat → Int32 := fun j => if (18 ≤ j ∧ j < 30) ∨ (66 ≤ j ∧ j < 84) then -1 else 0
def Sz : Dr := (Dz, 0, 0, 0)
set_option maxRecDepth 100000 in
theorem x_readText (E : zE) (d : Nat) {f : Nat → Nat → Int32} {t : (Nat → Nat → Int64) × Nat} (hl : nl ≤ 240) (hb : ∀ j, j < nl → f 18 j = tx j ∧ ¬ tx j = -1) (ht : ∀ j, nl ≤ j → tx j = -1) : Hr E (d + 6) 43 [.ref 24, .ref 18, .int (nI nl)] (f, t) (fun v z' => z'.2 = (t.1, 18) ∧ GF f z'.1 ∧ ((∃ n S' i' s w, v = some (.int (nI n)) ∧ RunP tx n Sz 0 S' i' ∧ Tok tx i' s s 0 w ∧ DRS z'.1 S') ∨ (∃ n S' i' s, v = some (.int (-10 - nI s)) ∧ RunP tx n Sz 0 S' i' ∧ FailD tx S' i' s))) := by
  unfold Hr
  generalize hQ : (fun (v : Option Value) (h : zH) => ∃ z' : zS, h = HP z' ∧ (z'.2 = (t.1, 18) ∧ GF f z'.1 ∧ ((∃ n S' i' s w, v = some (.int (nI n)) ∧ RunP tx n Sz 0 S' i' ∧ Tok tx i' s s 0 w ∧ DRS z'.1 S') ∨ (∃ n S' i' s, v = some (.int (-10 - nI s)) ∧ RunP tx n Sz 0 S' i' ∧ FailD tx S' i' s)))) = Q
  have loop : ∀ k c (S : Dr) (i : Nat) (f' : Nat → Nat → Int32) (y : Option Value), c + k = 241 → c ≤ i → i ≤ nl → RX f' tx nl → f' 24 3 = nI i → DRS f' S → GF f f' → (∀ (f'' : Nat → Nat → Int32) n S' i' s w, RunP tx n S i S' i' → Tok tx i' s s 0 w → DRS f'' S' → GF f f'' → Q (some (.int (nI (c + n)))) (HP (f'', t.1, 18))) → (∀ (f'' : Nat → Nat → Int32) n S' i' s, RunP tx n S i S' i' → FailD tx S' i' s → GF f f'' → Q (some (.int (-10 - nI s))) (HP (f'', t.1, 18))) → Ev E (d + 6) zm_X5_readText 32 [some (.ref 24), some (.ref 18), y, some (.int (nI c)), some (.int (nI c))] [] (HP (f', t.1, 18)) Q := by
    intro k
    induction k with
    | zero =>
      intro c S i f' y hck hci hin
      omega
    | succ k ihk =>
      intro c S i f' y hck hci hin hx h3 hD hg good bad
      have c240 : ((240 : Int32) < nI c) = False := eq_false (by
        rw [show (240 : Int32) = nI 240 from by decide, nI_lt_iff (by decide) (by omega)]
        omega)
      obtain ⟨v, z1, ⟨e1, e2, e3, s, e, e4, e5, e6, e7, e8⟩, kk⟩ := Hr_use (x_step E (d + 3) (t := (t.1, 18)) rfl hx hin h3)
      subst e1
      obtain ⟨f1, t1⟩ := z1
      dsimp only at e2 e3 e4 e7 e8
      subst e2
      by_cases k0 : f1 24 5 = 0
      · have k0' : (f1 24 5 = 0) = True := eq_true k0
        have es : e = s := by
          rw [k0] at e4
          obtain ⟨-, -, -, h | h | h | h⟩ := e4
          · exact h.2.1
          · exact absurd h.2.2.2.2 (by decide)
          · obtain ⟨-, -, -, -, -, h | h⟩ := h
            · exact absurd h.2.1 (by decide)
            · exact absurd h.2 (by decide)
          · have := h.2.2.2.2
            split at this
            · exact absurd this (by decide)
            · exact absurd this (by decide)
        subst es
        have qq := good f1 0 S i e (f1 24 6) ⟨rfl, rfl⟩ (by rw [k0] at e4; exact e4) (DR_c (fun a _ _ => e3.1 a (by omega)) hD) (GF_t hg (GF_f e3))
        rw [Nat.add_zero] at qq
        rw [e_X5_readText_32]
        simp only [↓e_X5_readText_5, ↓e_X5_readText_9, ↓e_X5_readText_15, ↓e_X5_readText_20, ↓e_X5_readText_24, ↓e_X5_readText_27, ↓e_X5_readText_40, ↓e_X5_readText_44, ↓e_X5_readText_48, ↓e_X5_readText_51, ↓e_X5_readText_54, ↓e_X5_readText_58, ↓e_X5_readText_61, ↓e_X5_readText_67, ↓e_X5_readText_69, ↓e_X5_readText_78, v5 o5_24, g5 o5_24, c240, kk, k0', zps_n, zk_i, zk_r, zk_n, ↓reduceIte]
        exact qq
      · have hD1 : DRS f1 S := DR_c (fun a _ _ => e3.1 a (by omega)) hD
        have hx1 := Fr_x e3 hx
        obtain ⟨v, z2, ⟨g1', g2', g3'⟩, k2⟩ := Hr_use (x_item E d (t := (t.1, 18)) rfl hx1 e4 e5 e6 e7 e8 k0 hD1)
        obtain ⟨f2, t2⟩ := z2
        dsimp only at g1' g2' g3'
        subst g1'
        rcases g3' with ⟨ev, D', np', nc', ns', i', q1, q2, q3, q4, q5⟩ | ⟨ev, s', q1, q2, q3⟩
        · subst ev
          have lt := step_lt q1
          have nx := fun y => ihk (c + 1) (D', np', nc', ns') i' f2 y (by omega) (by omega) q2 (GF_x g2' q4 hx1) q3 q5 (GF_t hg (GF_t (GF_f e3) g2')) (fun f'' n S' i'' s w h1 h2 h3 h4 => by
            have := good f'' (n + 1) S' i'' s w ⟨(D', np', nc', ns'), i', q1, h1⟩ h2 h3 h4
            rw [show c + 1 + n = c + (n + 1) by omega]
            exact this) (fun f'' n S' i'' s h1 h2 h3 => bad f'' (n + 1) S' i'' s ⟨(D', np', nc', ns'), i', q1, h1⟩ h2 h3)
          rw [e_X5_readText_32]
          simp only [↓e_X5_readText_5, ↓e_X5_readText_9, ↓e_X5_readText_15, ↓e_X5_readText_20, ↓e_X5_readText_24, ↓e_X5_readText_27, ↓e_X5_readText_40, ↓e_X5_readText_44, ↓e_X5_readText_48, ↓e_X5_readText_51, ↓e_X5_readText_54, ↓e_X5_readText_58, ↓e_X5_readText_61, ↓e_X5_readText_67, ↓e_X5_readText_69, ↓e_X5_readText_78, v5 o5_24, g5 o5_24, c240, kk, k0, k2, zps_s, zps_n, i01, nI_1, zk_i, zk_r, zk_n, ↓reduceIte]
          exact nx _
        · subst ev
          have qq := bad f2 0 S i s' ⟨rfl, rfl⟩ q3 (GF_t hg (GF_t (GF_f e3) g2'))
          rw [e_X5_readText_32]
          simp only [↓e_X5_readText_5, ↓e_X5_readText_9, ↓e_X5_readText_15, ↓e_X5_readText_20, ↓e_X5_readText_24, ↓e_X5_readText_27, ↓e_X5_readText_40, ↓e_X5_readText_44, ↓e_X5_readText_48, ↓e_X5_readText_51, ↓e_X5_readText_54, ↓e_X5_readText_58, ↓e_X5_readText_61, ↓e_X5_readText_67, ↓e_X5_readText_69, ↓e_X5_readText_78, v5 o5_24, g5 o5_24, c240, kk, k0, k2, q1, zps_s, zps_n, zk_i, zk_r, zk_n, ↓reduceIte]
          exact qq
  obtain ⟨f1, hf1⟩ : ∃ g : Nat → Nat → Int32, g = set2 f 24 2 (nI nl) := ⟨_, rfl⟩
  have w1 := fun K => (p5 o5_24).1 (f, t.1, 18) (nI nl) K
  dsimp only at w1
  rw [← hf1] at w1
  obtain ⟨f2, hf2⟩ : ∃ g : Nat → Nat → Int32, g = set2 f1 24 3 0 := ⟨_, rfl⟩
  have w2 := fun K => (p5 o5_24).2.1 (f1, t.1, 18) 0 K
  dsimp only at w2
  rw [← hf2] at w2
  have em := s_empty isS_25 E (d + 5) (f2, t.1, 18)
  obtain ⟨f3, hf3⟩ : ∃ g : Nat → Nat → Int32, g = setR (setR f2 25 (upd (upd (upd (f2 25) 0 0) 4 0) 11 0)) (25 + 9) (itr (fun i g => upd g i (-1)) 18 (f2 (25 + 9))) := ⟨_, rfl⟩
  dsimp only at em
  rw [← hf3] at em
  have r3 : ∀ a, a ≠ 25 → a ≠ 34 → f3 a = f2 a := fun a h1 h2 => by rw [hf3, setR_n h2, setR_n h1]
  have mn : (if nI 240 < nI nl then nI 240 else nI nl) = nI nl := by
    rw [if_neg (by rw [nI_lt_iff (by decide) (by omega)]; omega)]
  have e25 : f3 25 = upd (upd (upd (f2 25) 0 0) 4 0) 11 0 := by rw [hf3, setR_n (by decide), setR_s]
  have hD : DRS f3 Sz := by
    refine ⟨by decide, by decide, by decide, ?_, ?_, ?_, fun p hp => absurd hp (Nat.not_lt_zero p), fun p hp => absurd hp (Nat.not_lt_zero p), fun x hx => ?_, fun p hp => absurd hp (Nat.not_lt_zero p)⟩
    · rw [e25, uN (by decide), uN (by decide), uS]
      rfl
    · rw [e25, uN (by decide), uS]
      rfl
    · rw [e25, uS]
      rfl
    · have e34 : f3 34 x = -1 := by rw [hf3, setR_s, itr_updv (fun _ => -1), if_pos hx]
      rw [e34]
      show -1 = Dz (66 + x)
      unfold Dz
      rw [if_pos (by omega)]
  have hg : GF f f3 := fun a ha => by rw [r3 a (by omega) (by omega), hf2, set2_a (by omega), hf1, set2_a (by omega)]
  have hx : RX f3 tx nl := by
    refine ⟨?_, hl, ?_, ht⟩
    · rw [r3 24 (by decide) (by decide), hf2, set2_n (Or.inr (by decide)), hf1, set2_s]
    · rw [hg 18 (by omega)]
      exact hb
  have start := fun y => loop 241 0 Sz 0 f3 y (by omega) (by omega) (by omega) hx (by rw [r3 24 (by decide) (by decide), hf2, set2_s]; rfl) hD hg (fun f'' n S' i' s w h1 h2 h3 h4 => by
    rw [← hQ, Nat.zero_add]
    exact ⟨(f'', t.1, 18), rfl, rfl, h4, Or.inl ⟨n, S', i', s, w, rfl, h1, h2, h3⟩⟩) (fun f'' n S' i' s h1 h2 h3 => by
    rw [← hQ]
    exact ⟨(f'', t.1, 18), rfl, rfl, h3, Or.inr ⟨n, S', i', s, rfl, h1, h2⟩⟩)
  rw [nI_0] at start
  obtain ⟨t0, u0⟩ := t
  simp only [↓c_X5_readText, ↓e_X5_readText_0, ↓e_X5_readText_5, ↓e_X5_readText_9, ↓e_X5_readText_15, ↓e_X5_readText_20, ↓e_X5_readText_24, ↓e_X5_readText_27, ↓e_X5_readText_40, ↓e_X5_readText_44, ↓e_X5_readText_48, ↓e_X5_readText_51, ↓e_X5_readText_54, ↓e_X5_readText_58, ↓e_X5_readText_61, ↓e_X5_readText_67, ↓e_X5_readText_69, ↓e_X5_readText_78, g5 o5_24, v6 isS_25.1, Nat.reduceAdd, p5t, HP_al i18, mn, w1, w2, em, zps_n, zk_i, zk_r, zk_n]
  exact start _
end RT10
