/-! READ: wishes, in the class -/
section RW
variable {tx : Nat → Int32} {nl : Nat}
def WiS (tx : Nat → Int32) (np : Nat) : Nat → Nat → Nat → (Nat → Int32) → (Nat → Int32) → Nat → Prop
  | 0, i, _, w, w', i' => w' = w ∧ StpS tx i i'
  | k + 1, i, c, w, w', i' => ∃ n e, c < 3 ∧ Num tx i 0 np n e ∧ (∀ j, j < c → ¬ w j = nI n) ∧ WiS tx np k e (c + 1) (upd w c (nI n)) w' i'
def WiF (tx : Nat → Int32) (np : Nat) : Nat → Nat → Nat → (Nat → Int32) → Nat → Prop
  | 0, i, c, w, s => ∃ e k v, Tok tx i s e k v ∧ (c = 0 ∨ ¬ k = 3) ∧ ¬ (c < 3 ∧ k = 2 ∧ ∃ n, n ≤ 99 ∧ v = nI n ∧ n < np ∧ ∀ j, j < c → ¬ w j = nI n)
  | k + 1, i, c, w, s => ∃ n e, c < 3 ∧ Num tx i 0 np n e ∧ (∀ j, j < c → ¬ w j = nI n) ∧ WiF tx np k e (c + 1) (upd w c (nI n)) s
def wsT (g : Nat → Nat → Int32) (x : Nat) (w : Nat → Int32) : Nat → Nat → Int32 := set2 (set2 (set2 g 34 (3 * x) (w 0)) 34 (3 * x + 1) (w 1)) 34 (3 * x + 2) (w 2)
theorem ws_n (g : Nat → Nat → Int32) (x : Nat) (w : Nat → Int32) {a : Nat} (h : a ≠ 34) : wsT g x w a = g a := by
  unfold wsT
  rw [set2_a h, set2_a h, set2_a h]
theorem ws_at (g : Nat → Nat → Int32) (x : Nat) (w : Nat → Int32) {j : Nat} (h : j < 3) : wsT g x w 34 (3 * x + j) = w j := by
  unfold wsT set2
  rcases (by omega : j = 0 ∨ j = 1 ∨ j = 2) with e | e | e
  · subst e
    rw [if_neg (by omega), if_neg (by omega), if_pos (by omega)]
  · subst e
    rw [if_neg (by omega), if_pos (by omega)]
  · subst e
    rw [if_pos (by omega)]
theorem ws_o (g : Nat → Nat → Int32) (x : Nat) (w : Nat → Int32) {j : Nat} (h : ¬ (3 * x ≤ j ∧ j < 3 * x + 3)) : wsT g x w 34 j = g 34 j := by
  unfold wsT
  rw [set2_n (by omega), set2_n (by omega), set2_n (by omega)]
theorem ws_u (g : Nat → Nat → Int32) (x : Nat) (w : Nat → Int32) {c : Nat} (hc : c < 3) (v : Int32) : set2 (wsT g x w) 34 (3 * x + c) v = wsT g x (upd w c v) := by
  funext a j
  by_cases ha : a = 34
  · subst ha
    by_cases hj : 3 * x ≤ j ∧ j < 3 * x + 3
    · obtain ⟨k, hk, rfl⟩ : ∃ k, k < 3 ∧ j = 3 * x + k := ⟨j - 3 * x, by omega, by omega⟩
      rw [ws_at g x _ hk]
      unfold upd
      by_cases e : k = c
      · subst e
        rw [set2_s, if_pos rfl]
      · rw [set2_n (by omega), if_neg e, ws_at g x w hk]
    · rw [ws_o g x _ hj, set2_n (by omega), ws_o g x w hj]
  · rw [set2_a ha, ws_n g x w ha, ws_n g x _ ha]
theorem i34 : isI 34 18 := rfl
theorem rk_3 {a b c p : Int32} : (rkF a b c p < 3) = (a = p ∨ b = p ∨ c = p) := by
  unfold rkF
  by_cases h1 : a = p
  · rw [if_pos h1]
    exact propext ⟨fun _ => Or.inl h1, fun _ => by decide⟩
  · rw [if_neg h1]
    by_cases h2 : b = p
    · rw [if_pos h2]
      exact propext ⟨fun _ => Or.inr (Or.inl h2), fun _ => by decide⟩
    · rw [if_neg h2]
      by_cases h3 : c = p
      · rw [if_pos h3]
        exact propext ⟨fun _ => Or.inr (Or.inr h3), fun _ => by decide⟩
      · rw [if_neg h3]
        exact propext ⟨fun h => absurd h (by decide), fun h => by rcases h with h | h | h <;> contradiction⟩
set_option maxRecDepth 100000 in
theorem x_wishItem (E : zE) (d : Nat) {f : Nat → Nat → Int32} {t : (Nat → Nat → Int64) × Nat} (ht : t.2 = 18) (hx : RX f tx nl) {i np nc ns : Nat} (hi : i ≤ nl) (h3 : f 24 3 = nI i) (hnp : np ≤ 6) (hp : f 25 0 = nI np) (hnc : nc ≤ 6) (hc : f 25 4 = nI nc) (hns : ns ≤ 7) (hs : f 25 11 = nI ns) : Hr E (d + 4) 48 [.ref 24] (f, t) (fun v z' => z'.2 = t ∧ ((v = some (.int 1) ∧ ∃ x w k e1 i', Num tx i 0 nc x e1 ∧ 0 < k ∧ WiS tx np k e1 0 (fun _ => -1) w i' ∧ i' ≤ nl ∧ z'.1 24 3 = nI i' ∧ Fr (wsT f x w) z'.1) ∨ (v = some (.int 0) ∧ ∃ s, z'.1 24 4 = nI s ∧ s ≤ nl ∧ GF f z'.1 ∧ (NumF tx i 0 nc s ∨ ∃ x e1 k, Num tx i 0 nc x e1 ∧ WiF tx np k e1 0 (fun _ => -1) s)))) := by
  have h240 := hx.2.1
  unfold Hr
  generalize hQ : (fun (v : Option Value) (h : zH) => ∃ z' : zS, h = HP z' ∧ (z'.2 = t ∧ ((v = some (.int 1) ∧ ∃ x w k e1 i', Num tx i 0 nc x e1 ∧ 0 < k ∧ WiS tx np k e1 0 (fun _ => -1) w i' ∧ i' ≤ nl ∧ z'.1 24 3 = nI i' ∧ Fr (wsT f x w) z'.1) ∨ (v = some (.int 0) ∧ ∃ s, z'.1 24 4 = nI s ∧ s ≤ nl ∧ GF f z'.1 ∧ (NumF tx i 0 nc s ∨ ∃ x e1 k, Num tx i 0 nc x e1 ∧ WiF tx np k e1 0 (fun _ => -1) s))))) = Q
  obtain ⟨v, z1, ⟨e1, e2, e3, s, e, e4, e5, e6, e7, e8⟩, kk⟩ := Hr_use (x_step E (d + 1) (t := t) ht hx hi h3)
  subst e1
  obtain ⟨f1, t1⟩ := z1
  dsimp only at e2 e3 e4 e7 e8
  subst e2
  have isn := x_isNumber E (d + 3) (f1, t1) 0 (nI nc - 1)
  dsimp only at isn
  have c1 : f1 25 4 = nI nc := by rw [e3.1 25 (by decide)]; exact hc
  have nt := nm_tok (lo := 0) (hb := nc) (by omega) (by omega) e4
  rw [nI_0] at nt
  rcases nt with ⟨x, q1, q2, q3, q4⟩ | ⟨q1, q2⟩
  · rw [q1] at isn
    have hxc := q4.2.1
    have loop : ∀ k c (j : Nat) (w : Nat → Int32) (f' : Nat → Nat → Int32) (y : Option Value), c + k = 4 → c ≤ 3 → (∀ m, c ≤ m → m < 3 → w m = -1) → j ≤ nl → f' 24 3 = nI j → Fr (wsT f x w) f' → (∀ (f'' : Nat → Nat → Int32) k w' i', (0 < k ∨ 0 < c) → WiS tx np k j c w w' i' → i' ≤ nl → f'' 24 3 = nI i' → Fr (wsT f x w') f'' → Q (some (.int 1)) (HP (f'', t1))) → (∀ (f'' : Nat → Nat → Int32) k s, WiF tx np k j c w s → s ≤ nl → f'' 24 4 = nI s → GF f f'' → Q (some (.int 0)) (HP (f'', t1))) → Ev E (d + 4) zm_X5_wishItem 57 [some (.ref 24), some (.int (nI x)), some (.int (nI c)), y] [] (HP (f', t1)) Q := by
      intro k
      induction k with
      | zero =>
        intro c j w f' y hck hc3
        omega
      | succ k ihk =>
        intro c j w f' y hck hc3 hw hj h3' hf good bad
        have hx' : RX f' tx nl := RX_c (by rw [hf.1 18 (by decide), ws_n f x w (by decide)]) (by rw [hf.2, ws_n f x w (by decide)]) hx
        obtain ⟨v, z2, ⟨e1, e2, e3', s, e, e4, e5, e6, e7, e8⟩, kk⟩ := Hr_use (x_step E (d + 1) (t := t1) ht hx' hj h3')
        subst e1
        obtain ⟨f2, t2⟩ := z2
        dsimp only at e2 e3' e4 e7 e8
        subst e2
        have c4 : ((3 : Int32) < nI c) = False := eq_false (by
          rw [show (3 : Int32) = nI 3 from by decide, nI_lt_iff (by decide) (by omega)]
          omega)
        have fr2 := Fr_t hf e3'
        by_cases k3 : f2 24 5 = 3
        · have k3' : (f2 24 5 = 3) = True := eq_true k3
          by_cases c0 : 0 < c
          · have qq := good f2 0 w e (Or.inr c0) ⟨rfl, s, f2 24 6, by rw [k3] at e4; exact e4⟩ e6 e7 fr2
            have c0' : ((0 : Int32) < nI c) = True := eq_true (by rw [← nI_0, nI_lt_iff (by decide) (by omega)]; exact c0)
            rw [e_X5_wishItem_57]
            simp only [↓e_X5_wishItem_4, ↓e_X5_wishItem_10, ↓e_X5_wishItem_13, ↓e_X5_wishItem_18, ↓e_X5_wishItem_21, ↓e_X5_wishItem_23, ↓e_X5_wishItem_27, ↓e_X5_wishItem_35, ↓e_X5_wishItem_39, ↓e_X5_wishItem_42, ↓e_X5_wishItem_49, ↓e_X5_wishItem_55, ↓e_X5_wishItem_62, ↓e_X5_wishItem_66, ↓e_X5_wishItem_70, ↓e_X5_wishItem_74, ↓e_X5_wishItem_78, ↓e_X5_wishItem_82, ↓e_X5_wishItem_83, ↓e_X5_wishItem_84, ↓e_X5_wishItem_89, ↓e_X5_wishItem_93, ↓e_X5_wishItem_94, ↓e_X5_wishItem_99, ↓e_X5_wishItem_105, ↓e_X5_wishItem_108, ↓e_X5_wishItem_113, ↓e_X5_wishItem_116, ↓e_X5_wishItem_120, ↓e_X5_wishItem_125, ↓e_X5_wishItem_128, ↓e_X5_wishItem_132, ↓e_X5_wishItem_134, ↓e_X5_wishItem_138, ↓e_X5_wishItem_141, ↓e_X5_wishItem_150, ↓e_X5_wishItem_151, ↓e_X5_wishItem_157, v5 o5_24, g5 o5_24, c4, kk, k3', c0', zps_s, zps_n, or_true, true_and, zk_i, zk_r, zk_n, ↓reduceIte]
            exact qq
          · have qq := bad f2 0 s ⟨e, _, _, e4, Or.inl (by omega), fun h => by rw [k3] at h; exact absurd h.2.1 (by decide)⟩ e5 e8 (GF_w (by decide) (GF_w (by decide) (GF_w (by decide) (GF_f fr2))))
            have c0' : ((0 : Int32) < nI c) = False := eq_false (by rw [← nI_0, nI_lt_iff (by decide) (by omega)]; exact c0)
            rw [e_X5_wishItem_57]
            simp only [↓e_X5_wishItem_4, ↓e_X5_wishItem_10, ↓e_X5_wishItem_13, ↓e_X5_wishItem_18, ↓e_X5_wishItem_21, ↓e_X5_wishItem_23, ↓e_X5_wishItem_27, ↓e_X5_wishItem_35, ↓e_X5_wishItem_39, ↓e_X5_wishItem_42, ↓e_X5_wishItem_49, ↓e_X5_wishItem_55, ↓e_X5_wishItem_62, ↓e_X5_wishItem_66, ↓e_X5_wishItem_70, ↓e_X5_wishItem_74, ↓e_X5_wishItem_78, ↓e_X5_wishItem_82, ↓e_X5_wishItem_83, ↓e_X5_wishItem_84, ↓e_X5_wishItem_89, ↓e_X5_wishItem_93, ↓e_X5_wishItem_94, ↓e_X5_wishItem_99, ↓e_X5_wishItem_105, ↓e_X5_wishItem_108, ↓e_X5_wishItem_113, ↓e_X5_wishItem_116, ↓e_X5_wishItem_120, ↓e_X5_wishItem_125, ↓e_X5_wishItem_128, ↓e_X5_wishItem_132, ↓e_X5_wishItem_134, ↓e_X5_wishItem_138, ↓e_X5_wishItem_141, ↓e_X5_wishItem_150, ↓e_X5_wishItem_151, ↓e_X5_wishItem_157, v5 o5_24, g5 o5_24, c4, kk, k3', c0', zps_s, zps_n, true_or, true_and, zk_i, zk_r, zk_n, ↓reduceIte]
            exact qq
        · by_cases c3 : c = 3
          · have qq := bad f2 0 s ⟨e, _, _, e4, Or.inr k3, fun h => by omega⟩ e5 e8 (GF_w (by decide) (GF_w (by decide) (GF_w (by decide) (GF_f fr2))))
            have c3' : (nI c = 3) = True := eq_true (by rw [c3]; decide)
            rw [e_X5_wishItem_57]
            simp only [↓e_X5_wishItem_4, ↓e_X5_wishItem_10, ↓e_X5_wishItem_13, ↓e_X5_wishItem_18, ↓e_X5_wishItem_21, ↓e_X5_wishItem_23, ↓e_X5_wishItem_27, ↓e_X5_wishItem_35, ↓e_X5_wishItem_39, ↓e_X5_wishItem_42, ↓e_X5_wishItem_49, ↓e_X5_wishItem_55, ↓e_X5_wishItem_62, ↓e_X5_wishItem_66, ↓e_X5_wishItem_70, ↓e_X5_wishItem_74, ↓e_X5_wishItem_78, ↓e_X5_wishItem_82, ↓e_X5_wishItem_83, ↓e_X5_wishItem_84, ↓e_X5_wishItem_89, ↓e_X5_wishItem_93, ↓e_X5_wishItem_94, ↓e_X5_wishItem_99, ↓e_X5_wishItem_105, ↓e_X5_wishItem_108, ↓e_X5_wishItem_113, ↓e_X5_wishItem_116, ↓e_X5_wishItem_120, ↓e_X5_wishItem_125, ↓e_X5_wishItem_128, ↓e_X5_wishItem_132, ↓e_X5_wishItem_134, ↓e_X5_wishItem_138, ↓e_X5_wishItem_141, ↓e_X5_wishItem_150, ↓e_X5_wishItem_151, ↓e_X5_wishItem_157, v5 o5_24, g5 o5_24, c4, kk, k3, c3', i01, zps_s, zps_n, true_or, true_and, zk_i, zk_r, zk_n, ↓reduceIte]
            exact qq
          · have c3' : (nI c = 3) = False := eq_false (by rw [show (3 : Int32) = nI 3 from by decide, nI_eq (by omega) (by decide)]; exact c3)
            have isn2 := x_isNumber E (d + 3) (f2, t2) 0 (nI np - 1)
            dsimp only at isn2
            have p2 : f2 25 0 = nI np := by rw [fr2.1 25 (by decide), ws_n f x w (by decide)]; exact hp
            have cc2 : f2 25 4 = nI nc := by rw [fr2.1 25 (by decide), ws_n f x w (by decide)]; exact hc
            have ss2 : f2 25 11 = nI ns := by rw [fr2.1 25 (by decide), ws_n f x w (by decide)]; exact hs
            have nt := nm_tok (lo := 0) (hb := np) (by omega) (by omega) e4
            rw [nI_0] at nt
            rcases nt with ⟨n, a1, a2, a3, a4⟩ | ⟨a1, a2⟩
            · rw [a1] at isn2
              have hn := a4.2.1
              have rk := s_rankOf isS_25 (z := (f2, t2)) (np := np) (nc := nc) (ns := ns) ⟨p2, cc2, ss2, hnp, hnc, hns⟩ E (d + 2) (nI x) (nI n)
              have t34 : ∀ j, j < 3 → f2 34 (3 * x + j) = w j := fun j hj => by rw [fr2.1 34 (by decide), ws_at f x w hj]
              have rv : rkZ (f2, t2) 25 (nI x) (nI n) = rkF (w 0) (w 1) (w 2) (nI n) := by
                unfold rkZ
                obtain ⟨m1, m2, m3, m4⟩ := nI_3 (show x < 6 by omega)
                dsimp only
                rw [if_pos (show (inB (nI x) (f2 25 4) && inB (nI n) (f2 25 0)) = true by rw [p2, cc2, inB_nI (by omega) (by omega), inB_nI (by omega) (by omega), decide_eq_true hxc, decide_eq_true hn]; rfl), m1, m3, m4, nI_cl (by omega), nI_cl (by omega), nI_cl (by omega)]
                rw [show f2 (25 + 9) (3 * x) = w 0 from t34 0 (by decide), show f2 (25 + 9) (3 * x + 1) = w 1 from t34 1 (by decide), show f2 (25 + 9) (3 * x + 2) = w 2 from t34 2 (by decide)]
              rw [rv] at rk
              have fresh : (rkF (w 0) (w 1) (w 2) (nI n) < 3) ↔ ¬ ∀ j, j < c → ¬ w j = nI n := by
                rw [rk_3]
                have nn : ∀ m, c ≤ m → m < 3 → ¬ w m = nI n := fun m h1 h2 h => by
                  rw [hw m h1 h2] at h
                  have := nI_nm (c := n) (by omega)
                  rw [← h] at this
                  exact this.mp rfl
                constructor
                · intro h g
                  have all : ∀ m, m < 3 → ¬ w m = nI n := fun m hm => if hmc : m < c then g m hmc else nn m (by omega) hm
                  rcases h with h | h | h
                  · exact all 0 (by decide) h
                  · exact all 1 (by decide) h
                  · exact all 2 (by decide) h
                · intro h
                  refine Classical.byContradiction (fun g => h (fun j hj hj2 => g ?_))
                  rcases (by omega : j = 0 ∨ j = 1 ∨ j = 2) with e | e | e
                  · subst e
                    exact Or.inl hj2
                  · subst e
                    exact Or.inr (Or.inl hj2)
                  · subst e
                    exact Or.inr (Or.inr hj2)
              by_cases fr : ∀ j, j < c → ¬ w j = nI n
              · have fr' : (rkF (w 0) (w 1) (w 2) (nI n) < 3) = False := eq_false (fun h => fresh.mp h fr)
                obtain ⟨f3, hf3⟩ : ∃ g : Nat → Nat → Int32, g = set2 f2 34 (3 * x + c) (nI n) := ⟨_, rfl⟩
                have wr := wi_k i34 (show 3 * x + c < 18 by omega) (by decide) (f2, t2) (nI n)
                dsimp only at wr
                rw [← hf3] at wr
                have ix : nI x * 3 + nI c = nI (3 * x + c) := by rw [(nI_3 (show x < 6 by omega)).1, nI_add]
                have fr3 : Fr (wsT f x (upd w c (nI n))) f3 := by
                  have := Fr_w (r := 34) (p := 3 * x + c) (x := nI n) (by decide) fr2
                  rw [ws_u f x w (by omega), ← hf3] at this
                  exact this
                have nx := ihk (c + 1) e (upd w c (nI n)) f3 (some (.int 0)) (by omega) (by omega) (fun m h1 h2 => by unfold upd; rw [if_neg (by omega)]; exact hw m (by omega) h2) e6 (by rw [hf3, set2_a (by decide)]; exact e7) fr3 (fun f'' k w' i' _ h1 h2 h3 h4 => good f'' (k + 1) w' i' (Or.inl (by omega)) ⟨n, e, by omega, a4, fr, h1⟩ h2 h3 h4) (fun f'' k s' h1 h2 h3 h4 => bad f'' (k + 1) s' ⟨n, e, by omega, a4, fr, h1⟩ h2 h3 h4)
                rw [e_X5_wishItem_57]
                simp only [↓e_X5_wishItem_4, ↓e_X5_wishItem_10, ↓e_X5_wishItem_13, ↓e_X5_wishItem_18, ↓e_X5_wishItem_21, ↓e_X5_wishItem_23, ↓e_X5_wishItem_27, ↓e_X5_wishItem_35, ↓e_X5_wishItem_39, ↓e_X5_wishItem_42, ↓e_X5_wishItem_49, ↓e_X5_wishItem_55, ↓e_X5_wishItem_62, ↓e_X5_wishItem_66, ↓e_X5_wishItem_70, ↓e_X5_wishItem_74, ↓e_X5_wishItem_78, ↓e_X5_wishItem_82, ↓e_X5_wishItem_83, ↓e_X5_wishItem_84, ↓e_X5_wishItem_89, ↓e_X5_wishItem_93, ↓e_X5_wishItem_94, ↓e_X5_wishItem_99, ↓e_X5_wishItem_105, ↓e_X5_wishItem_108, ↓e_X5_wishItem_113, ↓e_X5_wishItem_116, ↓e_X5_wishItem_120, ↓e_X5_wishItem_125, ↓e_X5_wishItem_128, ↓e_X5_wishItem_132, ↓e_X5_wishItem_134, ↓e_X5_wishItem_138, ↓e_X5_wishItem_141, ↓e_X5_wishItem_150, ↓e_X5_wishItem_151, ↓e_X5_wishItem_157, v5 o5_24, g5 o5_24, g6 isS_25.1, v6 isS_25.1, Nat.reduceAdd, c4, kk, k3, c3', p2, isn2, a3, rk, fr', ix, wr, nI_1, zps_s, zps_n, bI_t, i01, zk_i, zk_r, zk_n, ↓reduceIte]
                exact nx
              · have fr' : (rkF (w 0) (w 1) (w 2) (nI n) < 3) = True := eq_true (fresh.mpr fr)
                have qq := bad f2 0 s ⟨e, _, _, e4, Or.inr k3, fun h => by
                  obtain ⟨-, h1, n', h2, h3, h4, h5⟩ := h
                  rw [a3] at h3
                  rw [h3] at fr
                  exact fr h5⟩ e5 e8 (GF_w (by decide) (GF_w (by decide) (GF_w (by decide) (GF_f fr2))))
                rw [e_X5_wishItem_57]
                simp only [↓e_X5_wishItem_4, ↓e_X5_wishItem_10, ↓e_X5_wishItem_13, ↓e_X5_wishItem_18, ↓e_X5_wishItem_21, ↓e_X5_wishItem_23, ↓e_X5_wishItem_27, ↓e_X5_wishItem_35, ↓e_X5_wishItem_39, ↓e_X5_wishItem_42, ↓e_X5_wishItem_49, ↓e_X5_wishItem_55, ↓e_X5_wishItem_62, ↓e_X5_wishItem_66, ↓e_X5_wishItem_70, ↓e_X5_wishItem_74, ↓e_X5_wishItem_78, ↓e_X5_wishItem_82, ↓e_X5_wishItem_83, ↓e_X5_wishItem_84, ↓e_X5_wishItem_89, ↓e_X5_wishItem_93, ↓e_X5_wishItem_94, ↓e_X5_wishItem_99, ↓e_X5_wishItem_105, ↓e_X5_wishItem_108, ↓e_X5_wishItem_113, ↓e_X5_wishItem_116, ↓e_X5_wishItem_120, ↓e_X5_wishItem_125, ↓e_X5_wishItem_128, ↓e_X5_wishItem_132, ↓e_X5_wishItem_134, ↓e_X5_wishItem_138, ↓e_X5_wishItem_141, ↓e_X5_wishItem_150, ↓e_X5_wishItem_151, ↓e_X5_wishItem_157, v5 o5_24, g5 o5_24, g6 isS_25.1, v6 isS_25.1, Nat.reduceAdd, c4, kk, k3, c3', p2, isn2, a3, rk, fr', zps_s, zps_n, bI_t, i01, true_or, true_and, zk_i, zk_r, zk_n, ↓reduceIte]
                exact qq
            · rw [a1] at isn2
              have qq := bad f2 0 s ⟨e, _, _, e4, Or.inr k3, fun h => by
                obtain ⟨-, h1, n, h2, h3, h4, h5⟩ := h
                have d1 : decide (f2 24 6 < 0) = false := decide_eq_false (by rw [h3]; exact nI_pos (by omega))
                have d2 : decide (nI np - 1 < f2 24 6) = false := decide_eq_false (by rw [h3, nm_hi h2 (by omega)]; omega)
                rw [decide_eq_true h1, d1, d2] at a1
                exact absurd a1 (by decide)⟩ e5 e8 (GF_w (by decide) (GF_w (by decide) (GF_w (by decide) (GF_f fr2))))
              rw [e_X5_wishItem_57]
              simp only [↓e_X5_wishItem_4, ↓e_X5_wishItem_10, ↓e_X5_wishItem_13, ↓e_X5_wishItem_18, ↓e_X5_wishItem_21, ↓e_X5_wishItem_23, ↓e_X5_wishItem_27, ↓e_X5_wishItem_35, ↓e_X5_wishItem_39, ↓e_X5_wishItem_42, ↓e_X5_wishItem_49, ↓e_X5_wishItem_55, ↓e_X5_wishItem_62, ↓e_X5_wishItem_66, ↓e_X5_wishItem_70, ↓e_X5_wishItem_74, ↓e_X5_wishItem_78, ↓e_X5_wishItem_82, ↓e_X5_wishItem_83, ↓e_X5_wishItem_84, ↓e_X5_wishItem_89, ↓e_X5_wishItem_93, ↓e_X5_wishItem_94, ↓e_X5_wishItem_99, ↓e_X5_wishItem_105, ↓e_X5_wishItem_108, ↓e_X5_wishItem_113, ↓e_X5_wishItem_116, ↓e_X5_wishItem_120, ↓e_X5_wishItem_125, ↓e_X5_wishItem_128, ↓e_X5_wishItem_132, ↓e_X5_wishItem_134, ↓e_X5_wishItem_138, ↓e_X5_wishItem_141, ↓e_X5_wishItem_150, ↓e_X5_wishItem_151, ↓e_X5_wishItem_157, v5 o5_24, g5 o5_24, g6 isS_25.1, v6 isS_25.1, Nat.reduceAdd, c4, kk, k3, c3', p2, isn2, zps_s, zps_n, bI_f, true_or, true_and, zk_i, zk_r, zk_n, ↓reduceIte]
              exact qq
    have st : ∀ j (f' : Nat → Nat → Int32) (y : Option Value), j < 3 → Ev E (d + 4) zm_X5_wishItem 30 [some (.ref 24), some (.int (nI x)), some (.int (nI j)), y] [] (HP (f', t1)) Q = Ev E (d + 4) zm_X5_wishItem 30 [some (.ref 24), some (.int (nI x)), some (.int (nI (j + 1))), y] [] (HP (set2 f' 34 (3 * x + j) (-1), t1)) Q := fun j f' y hj => by
      have wr := wi_k i34 (show 3 * x + j < 18 by omega) (by decide) (f', t1) (-1)
      dsimp only at wr
      have ix : nI x * 3 + nI j = nI (3 * x + j) := by rw [(nI_3 (show x < 6 by omega)).1, nI_add]
      have j3 : (nI j < 3) = True := eq_true (by rw [show (3 : Int32) = nI 3 from by decide, nI_lt_iff (by omega) (by decide)]; exact hj)
      rw [e_X5_wishItem_30]
      simp only [↓e_X5_wishItem_4, ↓e_X5_wishItem_10, ↓e_X5_wishItem_13, ↓e_X5_wishItem_18, ↓e_X5_wishItem_21, ↓e_X5_wishItem_23, ↓e_X5_wishItem_27, ↓e_X5_wishItem_35, ↓e_X5_wishItem_39, ↓e_X5_wishItem_42, ↓e_X5_wishItem_49, ↓e_X5_wishItem_55, ↓e_X5_wishItem_62, ↓e_X5_wishItem_66, ↓e_X5_wishItem_70, ↓e_X5_wishItem_74, ↓e_X5_wishItem_78, ↓e_X5_wishItem_82, ↓e_X5_wishItem_83, ↓e_X5_wishItem_84, ↓e_X5_wishItem_89, ↓e_X5_wishItem_93, ↓e_X5_wishItem_94, ↓e_X5_wishItem_99, ↓e_X5_wishItem_105, ↓e_X5_wishItem_108, ↓e_X5_wishItem_113, ↓e_X5_wishItem_116, ↓e_X5_wishItem_120, ↓e_X5_wishItem_125, ↓e_X5_wishItem_128, ↓e_X5_wishItem_132, ↓e_X5_wishItem_134, ↓e_X5_wishItem_138, ↓e_X5_wishItem_141, ↓e_X5_wishItem_150, ↓e_X5_wishItem_151, ↓e_X5_wishItem_157, g5 o5_24, g6 isS_25.1, Nat.reduceAdd, j3, ix, wr, nI_1, zk_i, zk_r, zk_n, ↓reduceIte]
    have nx := loop 4 0 e (fun _ => -1) (wsT f1 x (fun _ => -1)) none (by omega) (by omega) (fun _ _ _ => rfl) e6 (by rw [ws_n f1 x _ (by decide)]; exact e7) (Fr_w (by decide) (Fr_w (by decide) (Fr_w (by decide) e3))) (fun f'' k w' i' h0 h1 h2 h3 h4 => by
      rw [← hQ]
      exact ⟨(f'', t1), rfl, rfl, Or.inl ⟨rfl, x, w', k, e, i', q4, by omega, h1, h2, h3, h4⟩⟩) (fun f'' k s h1 h2 h3 h4 => by
      rw [← hQ]
      exact ⟨(f'', t1), rfl, rfl, Or.inr ⟨rfl, s, h3, h2, h4, Or.inr ⟨x, e, k, q4, h1⟩⟩⟩)
    rw [nI_0] at nx
    have s0 := st 0 f1 none (by decide)
    have s1 := st 1 (set2 f1 34 (3 * x + 0) (-1)) none (by decide)
    have s2 := st 2 (set2 (set2 f1 34 (3 * x + 0) (-1)) 34 (3 * x + 1) (-1)) none (by decide)
    have fin : ∀ f', Ev E (d + 4) zm_X5_wishItem 30 [some (.ref 24), some (.int (nI x)), some (.int (nI (2 + 1))), none] [] (HP (f', t1)) Q = Ev E (d + 4) zm_X5_wishItem 57 [some (.ref 24), some (.int (nI x)), some (.int 0), none] [] (HP (f', t1)) Q := fun f' => by
      have j3 : (nI (2 + 1) < 3) = False := by decide
      rw [e_X5_wishItem_30]
      simp only [↓e_X5_wishItem_4, ↓e_X5_wishItem_10, ↓e_X5_wishItem_13, ↓e_X5_wishItem_18, ↓e_X5_wishItem_21, ↓e_X5_wishItem_23, ↓e_X5_wishItem_27, ↓e_X5_wishItem_35, ↓e_X5_wishItem_39, ↓e_X5_wishItem_42, ↓e_X5_wishItem_49, ↓e_X5_wishItem_55, ↓e_X5_wishItem_62, ↓e_X5_wishItem_66, ↓e_X5_wishItem_70, ↓e_X5_wishItem_74, ↓e_X5_wishItem_78, ↓e_X5_wishItem_82, ↓e_X5_wishItem_83, ↓e_X5_wishItem_84, ↓e_X5_wishItem_89, ↓e_X5_wishItem_93, ↓e_X5_wishItem_94, ↓e_X5_wishItem_99, ↓e_X5_wishItem_105, ↓e_X5_wishItem_108, ↓e_X5_wishItem_113, ↓e_X5_wishItem_116, ↓e_X5_wishItem_120, ↓e_X5_wishItem_125, ↓e_X5_wishItem_128, ↓e_X5_wishItem_132, ↓e_X5_wishItem_134, ↓e_X5_wishItem_138, ↓e_X5_wishItem_141, ↓e_X5_wishItem_150, ↓e_X5_wishItem_151, ↓e_X5_wishItem_157, j3, zk_i, zk_r, zk_n, ↓reduceIte]
    rw [s1, s2, fin, nI_0] at s0
    simp only [↓c_X5_wishItem, ↓e_X5_wishItem_0, ↓e_X5_wishItem_4, ↓e_X5_wishItem_10, ↓e_X5_wishItem_13, ↓e_X5_wishItem_18, ↓e_X5_wishItem_21, ↓e_X5_wishItem_23, ↓e_X5_wishItem_27, ↓e_X5_wishItem_35, ↓e_X5_wishItem_39, ↓e_X5_wishItem_42, ↓e_X5_wishItem_49, ↓e_X5_wishItem_55, ↓e_X5_wishItem_62, ↓e_X5_wishItem_66, ↓e_X5_wishItem_70, ↓e_X5_wishItem_74, ↓e_X5_wishItem_78, ↓e_X5_wishItem_82, ↓e_X5_wishItem_83, ↓e_X5_wishItem_84, ↓e_X5_wishItem_89, ↓e_X5_wishItem_93, ↓e_X5_wishItem_94, ↓e_X5_wishItem_99, ↓e_X5_wishItem_105, ↓e_X5_wishItem_108, ↓e_X5_wishItem_113, ↓e_X5_wishItem_116, ↓e_X5_wishItem_120, ↓e_X5_wishItem_125, ↓e_X5_wishItem_128, ↓e_X5_wishItem_132, ↓e_X5_wishItem_134, ↓e_X5_wishItem_138, ↓e_X5_wishItem_141, ↓e_X5_wishItem_150, ↓e_X5_wishItem_151, ↓e_X5_wishItem_157, v5 o5_24, g5 o5_24, g6 isS_25.1, Nat.reduceAdd, kk, c1, isn, q3, zps_s, zps_n, bI_t, i01, zk_i, zk_r, zk_n, ↓reduceIte]
    rw [s0]
    exact nx
  · rw [q1] at isn
    have qq : Q (some (.int 0)) (HP (f1, t1)) := by
      rw [← hQ]
      exact ⟨(f1, t1), rfl, rfl, Or.inr ⟨rfl, s, e8, e5, GF_f e3, Or.inl q2⟩⟩
    simp only [↓c_X5_wishItem, ↓e_X5_wishItem_0, ↓e_X5_wishItem_4, ↓e_X5_wishItem_10, ↓e_X5_wishItem_13, ↓e_X5_wishItem_18, ↓e_X5_wishItem_21, ↓e_X5_wishItem_23, ↓e_X5_wishItem_27, ↓e_X5_wishItem_35, ↓e_X5_wishItem_39, ↓e_X5_wishItem_42, ↓e_X5_wishItem_49, ↓e_X5_wishItem_55, ↓e_X5_wishItem_62, ↓e_X5_wishItem_66, ↓e_X5_wishItem_70, ↓e_X5_wishItem_74, ↓e_X5_wishItem_78, ↓e_X5_wishItem_82, ↓e_X5_wishItem_83, ↓e_X5_wishItem_84, ↓e_X5_wishItem_89, ↓e_X5_wishItem_93, ↓e_X5_wishItem_94, ↓e_X5_wishItem_99, ↓e_X5_wishItem_105, ↓e_X5_wishItem_108, ↓e_X5_wishItem_113, ↓e_X5_wishItem_116, ↓e_X5_wishItem_120, ↓e_X5_wishItem_125, ↓e_X5_wishItem_128, ↓e_X5_wishItem_132, ↓e_X5_wishItem_134, ↓e_X5_wishItem_138, ↓e_X5_wishItem_141, ↓e_X5_wishItem_150, ↓e_X5_wishItem_151, ↓e_X5_wishItem_157, v5 o5_24, g5 o5_24, g6 isS_25.1, Nat.reduceAdd, kk, c1, isn, zps_s, zps_n, bI_f, true_or, true_and, zk_i, zk_r, zk_n, ↓reduceIte]
    exact qq
end RW
