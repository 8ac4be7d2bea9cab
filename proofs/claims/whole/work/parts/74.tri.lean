/-! calls that end, with what holds then -/
theorem zx_det {E : zE} {f g d : Nat} {M : zM} {pc : Nat} {L : zL} {S : List Value} {h : zH} {r r' : Option Value × zH} (h1 : zx E f d M pc L S h = some r) (h2 : zx E g d M pc L S h = some r') : r = r' := by
  have a := zx_le h1 (Nat.le_max_left f g)
  have b := zx_le h2 (Nat.le_max_right f g)
  rw [a] at b
  exact Option.some.inj b
theorem Ev_det {E : zE} {d : Nat} {M : zM} {pc : Nat} {L : zL} {S : List Value} {h : zH} {Q : Option Value → zH → Prop} (hq : Ev E d M pc L S h Q) : ∃ r h', Q r h' ∧ ∀ K, Ev E d M pc L S h K = K r h' := by
  obtain ⟨f, r, hr, hQ⟩ := hq
  refine ⟨r.1, r.2, hQ, fun K => propext ⟨?_, fun hk => ⟨f, r, hr, hk⟩⟩⟩
  rintro ⟨g, r', hr', hk⟩
  rw [zx_det hr hr']
  exact hk
theorem Cl_det {E : zE} {d i : Nat} {as : List Value} {h : zH} {Q : Option Value → zH → Prop} (hq : Cl E d i as h Q) : ∃ r h', Q r h' ∧ ∀ K, Cl E d i as h K = K r h' := by
  unfold Cl at hq ⊢
  generalize zmt[i]? = o at hq ⊢
  cases o with
  | none => exact hq.elim
  | some M =>
    obtain ⟨hl, he⟩ := hq
    obtain ⟨r, h', hQ, hk⟩ := Ev_det he
    refine ⟨r, h', hQ, fun K => ?_⟩
    show ((zfl as).length ≤ M.2.2.1 ∧ Ev E d M 0 (zent M.2.2.1 as) [] h K) = K r h'
    rw [hk]
    exact propext ⟨fun q => q.2, fun q => ⟨hl, q⟩⟩
/-- the call ends, with P of its answer and of the state then -/
def Hr (E : zE) (d i : Nat) (as : List Value) (z : zS) (P : Option Value → zS → Prop) : Prop := Cl E d i as (HP z) (fun r h => ∃ z', h = HP z' ∧ P r z')
theorem Hr_use {E : zE} {d i : Nat} {as : List Value} {z : zS} {P : Option Value → zS → Prop} (h : Hr E d i as z P) : ∃ r z', P r z' ∧ ∀ K, Cl E d i as (HP z) K = K r (HP z') := by
  obtain ⟨r, h', hz, hk⟩ := Cl_det h
  obtain ⟨z', e, hP⟩ := hz
  exact ⟨r, z', hP, fun K => by rw [hk K, e]⟩
theorem Hr_ans {E : zE} {d i : Nat} {as : List Value} {z : zS} {v : Option Value} {P : zS → Prop} (h : Hr E d i as z (fun r z' => r = v ∧ P z')) : ∃ z', P z' ∧ ∀ K, Cl E d i as (HP z) K = K v (HP z') := by
  obtain ⟨r, z', hrP, hk⟩ := Hr_use h
  exact ⟨z', hrP.2, fun K => by rw [hk K, hrP.1]⟩
theorem Hr_of {E : zE} {d i : Nat} {as : List Value} {z z' : zS} {r : Option Value} {P : Option Value → zS → Prop} (h : ∀ K, Cl E d i as (HP z) K = K r (HP z')) (hP : P r z') : Hr E d i as z P := by
  unfold Hr
  rw [h]
  exact ⟨z', rfl, hP⟩
