/-! THE START, AND THE GOAL -/
theorem row20 : (va_up (va_up (fun _ => none) 0 (some 91)) 1 (some 110) : Nat → Option Nat) = fun i => ([91, 110] : List Nat)[i]? := by
  funext i
  unfold va_up
  rcases i with _ | _ | i <;> simp
theorem row51 : (fun i => if i < 5 then some (51 + 1 + i) else none : Nat → Option Nat) = fun i => ([52, 53, 54, 55, 56] : List Nat)[i]? := by
  funext i
  rcases i with _ | _ | _ | _ | _ | i <;> simp
def zlg0 : Nat → Nat → Int64 := fun o => match o with
  | 22 => fun k => if k = 1 then 1 else 0
  | 129 => fun k => if k = 18 then 1 else 0
  | _ => fun _ => 0
def zst0 : zS := (fun _ _ => 0, zlg0, 37)
set_option maxRecDepth 100000 in
theorem zh_HP : zh_63 = HP zst0 := by
  unfold zh_63
  rw [row20, row51]
  rfl
theorem e_in_89 (E : zE) (d : Nat) (h : zH) (Q : Option Value → zH → Prop) : Ev E (d + 1) zm_X9_init 89 [some (.ref 129)] [.ref 129] h Q = zvc h 129 9 (Cl E d 132 [.ref 129] h (fun r h1 => Ev E (d + 1) zm_X9_init 92 [some (.ref 129)] (zps r []) h1 Q)) := Ev_callV (w := ((3, 132, 1, 1071), (0, 0), [0, 9])) rfl (by decide) rfl rfl (Nat.le_of_ble_eq_true rfl) rfl rfl rfl
theorem e_in_92 (E : zE) (d : Nat) (h : zH) (Q : Option Value → zH → Prop) : Ev E (d + 1) zm_X9_init 92 [some (.ref 129)] [] h Q = zvc h 129 9 (Cl E d 133 [.ref 129] h (fun r h1 => Ev E (d + 1) zm_X9_init 96 [some (.ref 129)] (zps r []) h1 Q)) := (Ev_run (pc' := 93) (L' := [some (.ref 129)]) (S' := [.ref 129]) 1 rfl).trans (Ev_callV (w := ((3, 133, 1, 1082), (0, 0), [0, 9])) rfl (by decide) rfl rfl (Nat.le_of_ble_eq_true rfl) rfl rfl rfl)
theorem e_in_96 (E : zE) (d : Nat) (h : zH) (Q : Option Value → zH → Prop) : Ev E d zm_X9_init 96 [some (.ref 129)] [] h Q = Q none h := Ev_vret rfl rfl
theorem e_law_15 (E : zE) (d : Nat) (h : zH) (Q : Option Value → zH → Prop) : Ev E d zm_L_law 15 [some (.ref 1004), some (.ref 0), none, none] [.ref 129] h Q = Ev E d zm_L_law 18 [some (.ref 1004), some (.ref 0), some (.ref 129), some (.int 0)] [] h Q := Ev_run 3 rfl
theorem Inv_0 {f : Nat → Nat → Int32} (h1 : ∀ a, a ≠ 129 → a ≠ 130 → a ≠ 133 → f a = fun _ => 0) (h2 : ∀ k, 107 ≤ k → f 130 k = 0) (h3 : ∀ k, 104 ≤ k → k < 107 → f 130 k = 0) : Inv (f, zlg0, 37) := by
  refine ⟨⟨0, 0, 0, 0, 0, 0, 0, ⟨⟨?_, ?_, ?_, ?_, ?_, ?_, ?_⟩, ⟨?_, ?_, ?_, ?_, ?_, ?_, ?_⟩, by decide, by decide, by decide, by decide, by decide, by decide, by decide⟩, fun p hp => absurd hp (Nat.not_lt_zero p), fun p hp => absurd hp (Nat.not_lt_zero p), fun p hp => absurd hp (Nat.not_lt_zero p), fun p hp => absurd hp (Nat.not_lt_zero p), fun p hp => absurd hp (Nat.not_lt_zero p)⟩, ⟨?_, Or.inl ?_⟩, ⟨?_, Or.inl ?_⟩, fun k hk => ?_, 0, 1, by decide, by decide, rfl, rfl, rfl, rfl⟩
  · exact congrFun (h1 2 (by decide) (by decide) (by decide)) 0
  · exact congrFun (h1 2 (by decide) (by decide) (by decide)) 4
  · exact congrFun (h1 2 (by decide) (by decide) (by decide)) 11
  · exact congrFun (h1 1 (by decide) (by decide) (by decide)) 5
  · exact congrFun (h1 1 (by decide) (by decide) (by decide)) 6
  · exact congrFun (h1 1 (by decide) (by decide) (by decide)) 8
  · exact congrFun (h1 1 (by decide) (by decide) (by decide)) 10
  · exact h3 104 (by decide) (by decide)
  · exact h3 105 (by decide) (by decide)
  · exact h3 106 (by decide) (by decide)
  · exact h2 107 (by decide)
  · exact h2 108 (by decide)
  · exact h2 120 (by decide)
  · exact h2 109 (by decide)
  · show f 21 0 = f 131 0
    rw [h1 21 (by decide) (by decide) (by decide), h1 131 (by decide) (by decide) (by decide)]
  · show f 21 0 = 0
    rw [h1 21 (by decide) (by decide) (by decide)]
  · show f 21 1 = f 131 1
    rw [h1 21 (by decide) (by decide) (by decide), h1 131 (by decide) (by decide) (by decide)]
  · show f 21 1 = 0
    rw [h1 21 (by decide) (by decide) (by decide)]
  · show f 23 k = f 132 k
    rw [h1 23 (by decide) (by decide) (by decide), h1 132 (by decide) (by decide) (by decide)]
/-- what is left of the claim, in the small machine alone -/
def zGoal : Prop := ∀ E : zE, E.1 ≤ 3072 → Ev E 50 zm_L_law 0 [some (.ref 1004), none, none, none] [] [] (fun r h => r = some (.int 1) ∧ h.length ≤ 1000 ∧ zsz h ≤ 1000000)
theorem z_goal : zGoal := by
  intro E hE
  show Ev E (46 + 4) zm_L_law 0 [some (.ref 1004), none, none, none] [] [] zEnd
  rw [ct_law E 46, zh_HP]
  obtain ⟨r1, z1, ⟨x1, x2, x3, x4, x5⟩, k1⟩ := Hr_use (m_clearDraft E 47 (fun _ _ => 0) (zlg0, 37))
  subst x1
  obtain ⟨f1, t1⟩ := z1
  dsimp only at x2 x3 x4 x5
  subst x2
  obtain ⟨r2, z2, ⟨y1, y2, y3, y4, y5⟩, k2⟩ := Hr_use (m_keepDraft E 48 f1 (zlg0, 37))
  subst y1
  obtain ⟨f2, t2⟩ := z2
  dsimp only at y2 y3 y4 y5
  subst y2
  have hI : Inv (f2, zlg0, 37) := Inv_0 (fun a a1 a2 a3 => by rw [y3 a a2, x3.1 a a1 a3]) (fun k hk => by rw [y5 k hk, x3.1 130 (by decide) (by decide)]) (fun k h1 h2 => by
    rw [y4 k h2, x5 k (by omega)]
    unfold Dz
    rw [if_neg (by omega)])
  have lp := law_loop E 39 hE 512 0 (f2, zlg0, 37) hI (by omega) (by omega)
  rw [show 6 * 0 = 0 from rfl, nI_0] at lp
  have k1' : ∀ K, Cl E 48 132 [.ref 129] (HP zst0) K = K none (HP (f1, zlg0, 37)) := k1
  have k2' : ∀ K, Cl E 48 133 [.ref 129] (HP (f1, zlg0, 37)) K = K none (HP (f2, zlg0, 37)) := k2
  rw [e_in_89 E 48, v9 o9_129, k1', zps_n, e_in_92 E 48, v9 o9_129, k2', zps_n, e_in_96, zps_n, e_law_15]
  exact lp
