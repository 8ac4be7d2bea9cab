/-! one step of the small machine is one of the Java machine -/
theorem zlookup_mem {α : Type} : ∀ (l : List (Nat × α)) (k : Nat) (v : α), l.lookup k = some v → (k, v) ∈ l
  | [], _, _, h => by cases h
  | (a, b) :: l, k, v, h => by
    rw [List.lookup_cons] at h
    by_cases hk : k = a
    · subst hk
      simp at h
      subst h
      exact List.mem_cons_self
    · have : (k == a) = false := by simpa using hk
      rw [this] at h
      exact List.mem_cons_of_mem _ (zlookup_mem l k v h)
set_option maxRecDepth 100000 in
theorem zlaw_only : ∀ (i : Nat) (M : zM), zmt[i]? = some M → M.1 = yL_law → i = 228 := by
  intro i M h hM
  have h1 := List.all_eq_true.mp (show (zmt.zipIdx.all fun q => decide (q.1.1 ≠ yL_law ∨ q.2 = 228)) = true by decide +kernel) (M, i) (List.mem_of_getElem? (i := i) (by rw [List.getElem?_zipIdx, h]; simp))
  simp only [decide_eq_true_eq] at h1
  exact h1.resolve_left (fun q => q hM)
theorem znm_of {i : Nat} {M' : zM} (h : zmt[i]? = some M') : znm i = M'.1 := by
  unfold znm
  rw [h]
theorem zw_of {i kd : Nat} {M' : zM} (h : zmt[i]? = some M') (hl : i ≠ 228) (hk : (zmx[i]?).map (fun x => x.2.1) = some kd) : ∃ x, zwM M' x ∧ x.2.1 = kd := by
  cases hx : zmx[i]? with
  | none => rw [hx] at hk; cases hk
  | some x =>
    rw [hx] at hk
    refine ⟨x, ?_, Option.some.inj hk⟩
    rcases zAll_at zmt zmx zw_all i M' x h hx with h1 | h1
    · exact absurd (zlaw_only i M' h h1) hl
    · exact h1
/-- the arguments of a call, and what lies below them -/
theorem ztake {S : List Value} {b : Nat} (hb : b ≤ S.length) : S = ((S.take b).reverse).reverse ++ S.drop b ∧ ((S.take b).reverse).length = b := by
  refine ⟨by rw [List.reverse_reverse, List.take_append_drop], ?_⟩
  rw [List.length_reverse, List.length_take]
  omega
theorem zrecv {S : List Value} {b : Nat} {v : Value} (hv : S[b - 1]? = some v) (hb : 0 < b) (hbl : b ≤ S.length) : ∃ as, (S.take b).reverse = v :: as ∧ as.length = b - 1 ∧ S = as.reverse ++ v :: S.drop b := by
  refine ⟨(S.take (b - 1)).reverse, ?_, ?_, ?_⟩
  · have h1 : S.take b = S.take (b - 1) ++ [v] := by
      have h2 := List.take_add_one (l := S) (i := b - 1)
      rw [show b - 1 + 1 = b by omega, hv] at h2
      simpa using h2
    rw [h1, List.reverse_append]
    rfl
  · rw [List.length_reverse, List.length_take]
    omega
  · rw [List.reverse_reverse]
    have h1 : S.drop (b - 1) = v :: S.drop b := by
      have hlt := get_lt hv
      rw [List.drop_eq_getElem_cons hlt]
      have h2 : S[b - 1] = v := by
        have := List.getElem?_eq_getElem hlt
        rw [this] at hv
        exact Option.some.inj hv
      rw [h2, show b - 1 + 1 = b by omega]
    rw [← h1, List.take_append_drop]
theorem z4 {a : Nat} (h1 : 1000 ≤ a) (h2 : a < 1004) : a - 1000 < 4 := by omega
section ZS5
variable {p : Program} {l : Launch} {e : Env} {R : Room} {s : State} {m : MethodId} {args : Array Value} {below : List Frame} {meth : Method} {c : Code} {Q : State → Prop} {Y : zY} {M : zM} {d n0 s0 pc : Nat} {L : zL} {S : List Value} {h : zH} {o : zO} {w : (Nat × Nat × Nat × Nat) × (Int32 × Int64) × List Nat}
theorem zroom_le (hr : zroom S = true) : ((S.map (yv Y)).map fun v => v.category).sum ≤ 8 := by
  rw [yv_sum]
  exact Nat.le_of_ble_eq_true hr
theorem zdesc {dd : String} {n b : Nat} (h : (parseMethodDescriptor dd).map (fun x => x.parameters.length + 1) = some b) (hn : n = b - 1) : (parseMethodDescriptor dd).map (fun x => x.parameters.length) = some n ∧ 0 < b := by
  cases hp : parseMethodDescriptor dd with
  | none => rw [hp] at h; cases h
  | some x =>
    rw [hp] at h
    have h1 : x.parameters.length + 1 = b := Option.some.inj h
    refine ⟨?_, by omega⟩
    show some x.parameters.length = some n
    rw [hn, ← h1]
    rfl
theorem zs_invokestatic {i : Nat} (X : zX p s m args meth c M Y n0) (hR : d ≤ R.frames ∧ 40 * d ≤ R.locals) (hd : decode M.2.1 pc = .ok (.invokestatic i, 3)) (hz : zok M.1.cls M.1.name pc (.invokestatic i, w) = true) (hl : zlok (.invokestatic i, w) = true) (ho : zs1 Y.2.2.2.2.2 d M (.invokestatic i, w) pc L S h = some o) (k : zCt p l e R s m args below meth c Q Y M d n0 s0 o) : zJ p l e R s m args below meth c Q Y M n0 s0 pc L S h := by
  simp only [zok, Bool.and_eq_true, decide_eq_true_eq] at hz
  obtain ⟨⟨hz1, hz2⟩, hz3⟩ := hz
  simp only [zlok, Bool.and_eq_true, Bool.or_eq_true, decide_eq_true_eq] at hl
  cases d with
  | zero => simp [zs1] at ho
  | succ d' =>
    simp only [zs1] at ho
    have hmath : ∀ y : MethodName, znm w.1.2.1 = y → 1000 ≤ w.1.2.1 → Cond.methodLink M.1.cls i y ∈ zU := by
      intro y hy hge
      rw [hy] at hz1
      split at hz1
      · exact zU_mem (by simpa using hz1) rfl
      · simp only [Bool.and_eq_true, decide_eq_true_eq] at hz1
        omega
      · cases hz1
    have hone : 1 ≤ R.frames := by omega
    unfold zprim at ho
    split at ho
    · rename_i heq
      split at ho
      · rename_i y x S'
        split at ho
        · rename_i hroom
          cases ho
          intro H locs cells slots ls hl' hG hS hc hs
          have hk := zroom_le (Y := Y) hroom
          exact va_mmax X.1 X.2.1 (X.2.2.1.trans hl'.1.symm) X.2.2.2.1 (X.2.2.2.2.1 _ (hmath _ (by rw [heq]; rfl) (by omega))) (X.2.2.2.2.1 _ zms_max) (X.2.2.2.2.1 _ zmi) (X.2.2.2.2.1 _ zmc_max) hone (by omega) (by have := k.2.1; omega) (by have := k.2.2; omega) hd (k.1 H locs cells slots ls hl' hG hS hc hs)
        · cases ho
      · cases ho
    · rename_i heq
      split at ho
      · rename_i y x S'
        split at ho
        · rename_i hroom
          cases ho
          intro H locs cells slots ls hl' hG hS hc hs
          have hk := zroom_le (Y := Y) hroom
          exact va_mmin X.1 X.2.1 (X.2.2.1.trans hl'.1.symm) X.2.2.2.1 (X.2.2.2.2.1 _ (hmath _ (by rw [heq]; rfl) (by omega))) (X.2.2.2.2.1 _ zms_min) (X.2.2.2.2.1 _ zmi) (X.2.2.2.2.1 _ zmc_min) hone (by omega) (by have := k.2.1; omega) (by have := k.2.2; omega) hd (k.1 H locs cells slots ls hl' hG hS hc hs)
        · cases ho
      · cases ho
    · rename_i heq
      split at ho
      · rename_i x S'
        split at ho
        · rename_i hroom
          cases ho
          intro H locs cells slots ls hl' hG hS hc hs
          have hk := zroom_le (Y := Y) hroom
          have hv : (if (0 : Int32) ≤ x then x else 0 - x) = (if x < 0 then 0 - x else x) := by
            by_cases hx : x < 0
            · rw [if_pos hx, if_neg (Int32.not_le.mpr hx)]
            · rw [if_neg hx, if_pos (Int32.not_lt.mp hx)]
          have kk := k.1 H locs cells slots ls hl' hG hS hc hs
          rw [← hv] at kk
          exact va_mabs X.1 X.2.1 (X.2.2.1.trans hl'.1.symm) X.2.2.2.1 (X.2.2.2.2.1 _ (hmath _ (by rw [heq]; rfl) (by omega))) (X.2.2.2.2.1 _ zms_abs) (X.2.2.2.2.1 _ zmi) (X.2.2.2.2.1 _ zmc_abs) hone (by omega) (by have := k.2.1; omega) (by have := k.2.2; omega) hd kk
        · cases ho
      · cases ho
    · omega
    · omega
    · omega
    · rename_i n1 n2 n3 n4 n5 n6
      split at ho
      · rename_i hb
        unfold zcall at ho
        split at ho
        · rename_i hroom
          cases ho
          have hk := k
          obtain ⟨d'', M', r, h', -, hM', -⟩ := k
          have hlt : w.1.2.1 < 1000 := by
            have := get_lt hM'
            have h9 : zmt.length < 1000 := by decide +kernel
            omega
          rw [znm_of hM'] at hz1 hz2
          obtain ⟨x, hx1, hx2⟩ := zw_of hM' (hl.2.resolve_left (by omega)).1 (hl.2.resolve_left (by omega)).2
          obtain ⟨e1, e2⟩ := ztake hb
          rw [e1]
          have hlk : (false = false ∧ Cond.methodLink M.1.cls i M'.1 ∈ zU) ∨ (false = true ∧ False) ∨ Cond.methodLinkNest M.1.cls i M'.1 zhost ∈ lw_tbl := by
            split at hz1
            · exact Or.inl ⟨rfl, zU_mem (by simpa using hz1) rfl⟩
            · simp only [Bool.and_eq_true, decide_eq_true_eq] at hz1
              exact Or.inr (Or.inr (List.mem_of_getElem? hz1.1))
            · cases hz1
          rcases hlk with ⟨-, hlk⟩ | ⟨h9, -⟩ | hlk
          · exact zs_callS (nest := false) X hR hd (Or.inl ⟨rfl, hlk⟩) hx1 hx2 hz2 hM' e2 hroom hk
          · cases h9
          · exact zs_callS (nest := true) X hR hd (Or.inr ⟨rfl, hlk⟩) hx1 hx2 hz2 hM' e2 hroom hk
        · cases ho
      · cases ho
theorem zs_invokespecial {i : Nat} (X : zX p s m args meth c M Y n0) (hR : d ≤ R.frames ∧ 40 * d ≤ R.locals) (hd : decode M.2.1 pc = .ok (.invokespecial i, 3)) (hz : zok M.1.cls M.1.name pc (.invokespecial i, w) = true) (hl : zlok (.invokespecial i, w) = true) (ho : zs1 Y.2.2.2.2.2 d M (.invokespecial i, w) pc L S h = some o) (k : zCt p l e R s m args below meth c Q Y M d n0 s0 o) : zJ p l e R s m args below meth c Q Y M n0 s0 pc L S h := by
  simp only [zok, Bool.and_eq_true, decide_eq_true_eq] at hz
  obtain ⟨⟨⟨hz1, hz2⟩, hz3⟩, hz4⟩ := hz
  simp only [zlok, Bool.and_eq_true, Bool.or_eq_true, decide_eq_true_eq] at hl
  cases d with
  | zero => simp [zs1] at ho
  | succ d' =>
    simp only [zs1] at ho
    have hone : 1 ≤ R.frames := by omega
    by_cases hlt : w.1.2.1 < 1000
    · rw [if_pos hlt] at ho
      split at ho
      · rename_i oo hrec
        unfold zprim at ho
        split at ho
        · omega
        · omega
        · omega
        · omega
        · omega
        · omega
        · split at ho
          · rename_i hb
            unfold zcall at ho
            split at ho
            · rename_i hroom
              cases ho
              have hk := k
              obtain ⟨d'', M', r, h', -, hM', -⟩ := k
              rw [znm_of hM'] at hz1 hz2
              obtain ⟨x, hx1, hx2⟩ := zw_of hM' (hl.2.resolve_left (by omega)).1 (hl.2.resolve_left (by omega)).2
              obtain ⟨q1, q2⟩ := zdesc (n := w.1.2.2.1 - 1) hz2 rfl
              obtain ⟨as, e1, e2, e3⟩ := zrecv hrec q2 hb
              rw [e1] at hk
              rw [e3]
              have hlk : Cond.methodLink M.1.cls i M'.1 ∈ zU ∨ Cond.methodLinkNest M.1.cls i M'.1 zhost ∈ lw_tbl := by
                split at hz1
                · exact Or.inl (zU_mem (by simpa using hz1) rfl)
                · simp only [Bool.and_eq_true, decide_eq_true_eq] at hz1
                  exact Or.inr (List.mem_of_getElem? hz1.1)
                · cases hz1
              rcases hlk with hlk | hlk
              · exact zs_callI (nest := false) X hR hd (Or.inl ⟨rfl, hlk⟩) hx1 hx2 q1 hM' e2 hroom hk
              · exact zs_callI (nest := true) X hR hd (Or.inr ⟨rfl, hlk⟩) hx1 hx2 q1 hM' e2 hroom hk
            · cases ho
          · cases ho
      · cases ho
    · rw [if_neg hlt] at ho
      have heq : w.1.2.1 = 1003 := hz4.resolve_left hlt
      rw [heq] at ho hz1
      simp only [zprim] at ho
      split at ho
      · rename_i oo S'
        split at ho
        · rename_i hroom
          simp only [zn] at ho
          cases ho
          intro H locs cells slots ls hl' hG hS hc hs
          have hk := zroom_le (Y := Y) hroom
          have hlk : Cond.methodLink M.1.cls i objectInit ∈ zU := by
            rw [show znm 1003 = Lib.objectInit from rfl] at hz1
            split at hz1
            · exact zU_mem (by simpa using hz1) rfl
            · simp at hz1
            · cases hz1
          exact W.objInit X.1 X.2.1 X.2.2.2.1 (X.2.2.2.2.1 _ hlk) (X.2.2.2.2.1 _ zoi) (X.2.2.2.2.1 _ zoc) rfl (by rw [X.2.2.1]; exact hl'.1) rfl hd hone (by show 2 * 0 + _ + 12 ≤ _; omega) (k.1 H locs cells slots ls hl' hG hS hc hs)
        · cases ho
      · cases ho
theorem zs_invokevirtual {i : Nat} (X : zX p s m args meth c M Y n0) (hR : d ≤ R.frames ∧ 40 * d ≤ R.locals) (hd : decode M.2.1 pc = .ok (.invokevirtual i, 3)) (hz : zok M.1.cls M.1.name pc (.invokevirtual i, w) = true) (hl : zlok (.invokevirtual i, w) = true) (ho : zs1 Y.2.2.2.2.2 d M (.invokevirtual i, w) pc L S h = some o) (k : zCt p l e R s m args below meth c Q Y M d n0 s0 o) : zJ p l e R s m args below meth c Q Y M n0 s0 pc L S h := by
  simp only [zok, Bool.and_eq_true, decide_eq_true_eq] at hz
  obtain ⟨⟨⟨⟨hz0, hz1⟩, hz2⟩, hz3⟩, hz4⟩ := hz
  simp only [zlok, Bool.and_eq_true, Bool.or_eq_true, decide_eq_true_eq] at hl
  cases d with
  | zero => simp [zs1] at ho
  | succ d' =>
    simp only [zs1] at ho
    by_cases hlt : w.1.2.1 < 1000
    · rw [if_pos hlt] at ho
      split at ho
      · rename_i oo hrec
        split at ho
        · rename_i cn fs hcell
          split at ho
          · rename_i hcn
            rw [hcn] at hz4
            simp only [decide_eq_true_eq] at hz4
            obtain ⟨hc1, hc2⟩ := hz4 hlt
            unfold zprim at ho
            split at ho
            · omega
            · omega
            · omega
            · omega
            · omega
            · omega
            · split at ho
              · rename_i hb
                unfold zcall at ho
                split at ho
                · rename_i hroom
                  cases ho
                  have hk := k
                  obtain ⟨d'', M', r, h', -, hM', -⟩ := k
                  rw [znm_of hM'] at hz1 hz2 hc2
                  obtain ⟨x, hx1, hx2⟩ := zw_of hM' (hl.2.resolve_left (by omega)).1 (hl.2.resolve_left (by omega)).2
                  obtain ⟨q1, q2⟩ := zdesc (n := w.1.2.2.1 - 1) hz2 rfl
                  obtain ⟨as, e1, e2, e3⟩ := zrecv hrec q2 hb
                  rw [e1] at hk
                  rw [e3]
                  exact zs_callV X hR hd (zU_mem hz1 rfl) hx1 hx2 q1 hM' e2 hroom hc1 hc2 hcell hk
                · cases ho
              · cases ho
          · cases ho
        · cases ho
      · cases ho
    · rw [if_neg hlt] at ho
      split at ho
      · rename_i d3 hd3
        have hsz := X.2.2.2.2.2.2.2.2
        rcases hz3.resolve_left hlt with heq | heq
        · rw [heq] at ho hz1
          simp only [zprim] at ho
          split at ho
          · rename_i a S'
            split at ho
            · rename_i hroom
              simp only [zn] at ho
              cases ho
              intro H locs cells slots ls hl' hG hS hc hs
              have g1 : 1000 ≤ (a : Nat) := hroom.2.1
              have g2 : (a : Nat) < 1004 := hroom.2.2
              have hi : a - 1000 < 4 := z4 g1 g2
              have hadr : ya Y a = Y.2.2.2.1 (a - 1000) := if_neg (Nat.not_lt.mpr g1)
              have hlk : Cond.methodLink M.1.cls i yJ0_length_8abf5 ∈ zU := zU_mem hz1 rfl
              have hO := X.2.2.2.2.2.2.2.1
              show W p l e R s m args below meth c H locs cells slots Q (F0 m pc ls (Value.ref (ya Y a) :: S'.map (yv Y)))
              rw [hadr]
              refine jrun (va_runV (As := []) (rest := S'.map (yv Y)) (Ts := zU) (own := M.1.cls) (C := RJ0) ⟨X.1, X.2.1, X.2.2.1, X.2.2.2.1, X.2.2.2.2.1⟩ (j_length l Y (a - 1000) hi) ⟨callB_of 0 X.2.2.2.2.1 (jgood jc_length) rfl rfl rfl (X.2.2.2.2.1 _ jw_ini0) (X.2.2.2.2.1 _ hlk) (by decide +kernel) ⟨by show 1 + 1 ≤ _; omega, by show 8 + (1 + 11) + 40 * 1 ≤ _; omega⟩, X.2.2.2.2.1 _ jw_ilen, X.2.2.2.2.1 _ jw_slen⟩ ⟨jblind, vk_recv hO.1.1 hi hS, jPc hO (by omega) hS _⟩ rfl rfl hl'.1 rfl (zroom_ok hroom.1) hd ⟨by have := k.2.1; omega, by have := k.2.2; omega⟩) ?_
              exact k.1 H locs cells slots ls hl' hG hS hc hs
            · cases ho
          · cases ho
        · rw [heq] at ho hz1
          simp only [zprim] at ho
          split at ho
          · rename_i j a S'
            split at ho
            · rename_i hroom
              simp only [zn] at ho
              cases ho
              intro H locs cells slots ls hl' hG hS hc hs
              have g1 : 1000 ≤ (a : Nat) := hroom.2.1
              have g2 : (a : Nat) < 1004 := hroom.2.2.1
              have hi : a - 1000 < 4 := z4 g1 g2
              have hadr : ya Y a = Y.2.2.2.1 (a - 1000) := if_neg (Nat.not_lt.mpr g1)
              have hlk : Cond.methodLink M.1.cls i yJ0_charAt_5068e ∈ zU := zU_mem hz1 rfl
              have hO := X.2.2.2.2.2.2.2.1
              show W p l e R s m args below meth c H locs cells slots Q (F0 m pc ls (Value.int j :: Value.ref (ya Y a) :: S'.map (yv Y)))
              rw [hadr]
              refine jrun (va_runV (As := [.int j]) (rest := S'.map (yv Y)) (Ts := zU) (own := M.1.cls) (C := RJ0) ⟨X.1, X.2.1, X.2.2.1, X.2.2.2.1, X.2.2.2.2.1⟩ (j_charAt l Y (a - 1000) hi j hroom.2.2.2) ⟨callB_of 1 X.2.2.2.2.1 (jgood jc_charAt) rfl rfl rfl (X.2.2.2.2.1 _ jw_ini0) (X.2.2.2.2.1 _ hlk) (by decide +kernel) ⟨by show 3 + 1 ≤ _; omega, by show 8 + (2 + 11) + 40 * 3 ≤ _; omega⟩, X.2.2.2.2.1 _ jw_icha, X.2.2.2.2.1 _ jw_scha⟩ ⟨jblind, vk_recv hO.1.1 hi hS, jPc hO (by omega) hS _⟩ rfl rfl hl'.1 rfl (zroom_ok hroom.1) hd ⟨by have := k.2.1; omega, by have := k.2.2; omega⟩) ?_
              exact k.1 H locs cells slots ls hl' hG hS hc hs
            · cases ho
          · cases ho
      · cases ho
end ZS5
