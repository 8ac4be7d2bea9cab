def zao (fc : String → Option ClassId) (ix : ClassId → Option Nat) (kd : Nat → Option Class) : Bool := ((fc (FieldType.array FieldType.int).toString).bind fun comp => (ix comp).bind fun c => (kd c).map fun (k : Class) => match k.kind with
  | .array _ ty => decide (ty = .array .int) && decide (fc ("[" ++ (FieldType.array FieldType.int).toString) = some c)
  | _ => false) == some true
def zaix (vm : Vm) (comp : ClassId) : Option Nat := vm.classes.findIdx? fun (x : Class) => match x.kind with
  | .array component _ => component == comp
  | _ => false
theorem zao_eq (U : State) : (Cond.arrayOver (.array .int)).before #[] U = zao (fun n => U.vm.findClass n) (zaix U.vm) (fun c => U.vm.classes[c]?) := rfl
theorem zaix_eq {u U : State} (hvm : u.vm.Alike U.vm) (comp : ClassId) : zaix U.vm comp = zaix u.vm comp := by
  have e1 : zaix U.vm.bare comp = zaix U.vm comp := va_idx_bare U.vm comp
  have e2 : zaix u.vm.bare comp = zaix u.vm comp := va_idx_bare u.vm comp
  rw [← e1, ← e2, hvm.bare_eq]
theorem zAO_moved {u U : State} (hvm : u.vm.Alike U.vm) (h : (Cond.arrayOver (.array .int)).before #[] u = true) : (Cond.arrayOver (.array .int)).before #[] U = true := by
  rw [zao_eq] at h ⊢
  have f1 : (fun n => U.vm.findClass n) = (fun n => u.vm.findClass n) := funext fun n => hvm.findClass n none
  have f2 : zaix U.vm = zaix u.vm := funext fun comp => zaix_eq hvm comp
  rw [f1, f2]
  unfold zao at h ⊢
  simp only at h ⊢
  cases hc : u.vm.findClass (FieldType.array FieldType.int).toString with
  | none => rw [hc] at h; simp at h
  | some comp =>
    rw [hc] at h
    simp only [Option.bind_some] at h ⊢
    cases hx : zaix u.vm comp with
    | none => rw [hx] at h; simp at h
    | some cc =>
      rw [hx] at h
      simp only [Option.bind_some] at h ⊢
      cases hk : u.vm.classes[cc]? with
      | none => rw [hk] at h; simp at h
      | some k =>
        rw [hk] at h
        obtain ⟨k', hk', he⟩ := hvm.2.2 _ _ hk
        rw [hk']
        have hkind : k'.kind = k.kind := by rw [he]
        simp only [Option.map_some, hkind] at h ⊢
        exact h
theorem yK.warm {Y : zY} {s U : State} (hW : s.WarmedH U.vm) (h : yK Y s) : yK Y U := by
  obtain ⟨h1, h2, h3, h4, h5, h6, h7, h8⟩ := h
  refine ⟨va_K.moved hW.alike h1, fun w hw hn => ?_, va_AO.moved hW.alike h3, zAO_moved hW.alike h4, vk_R.warm hW h5, vk_R.warm hW h6, vk_R.warm hW h7, vk_R.warm hW h8⟩
  have h9 := h2 w hw hn
  cases w <;> first | exact va_Nw.warmM hW h9 | (simp [znest] at hn; done)
theorem yK.same {Y : zY} {u U : State} (hv : u.vm = U.vm) (h : yK Y u) : yK Y U := by
  obtain ⟨h1, h2, h3, h4, h5, h6, h7, h8⟩ := h
  have ha : u.vm.Alike U.vm := by rw [hv]; exact Vm.Alike.refl _
  refine ⟨va_K.moved ha h1, fun w hw hn => ?_, va_AO.moved ha h3, zAO_moved ha h4, vk_R.same hv.symm h5, vk_R.same hv.symm h6, vk_R.same hv.symm h7, vk_R.same hv.symm h8⟩
  have h9 := h2 w hw hn
  cases w <;> first | exact va_Nw.same rfl hv h9 | (simp [znest] at hn; done)
def zPre (Y : zY) (h : zH) (U : State) : Prop := yG Y U.heap h ∧ yK Y U ∧ yO Y U U.heap
theorem zPre.blind {Y : zY} {as : List Value} {h : zH} : FrameBlind (va_Pc (as.map (yv Y)) (fun U => yG Y U.heap h ∧ yK Y U ∧ yO Y U U.heap)) := by
  intro a U g mk q
  obtain ⟨q0, q1, q2, q3⟩ := q
  exact ⟨q0, q1, yK.same (u := U) (U := U.calling g mk a) rfl q2, yO.moved (u := U) (U := U.calling g mk a) (Vm.Alike.refl U.vm) q3⟩
section ZS4
variable {p : Program} {l : Launch} {e : Env} {R : Room} {s : State} {m : MethodId} {args : Array Value} {below : List Frame} {meth : Method} {c : Code} {Q : State → Prop} {Y : zY} {M : zM} {d n0 s0 pc : Nat} {L : zL} {S : List Value} {h : zH} {o : zO} {w : (Nat × Nat × Nat × Nat) × (Int32 × Int64) × List Nat}
theorem zrun {H : Heap} {locs : List Loc} {cells slots mc ms : Nat} {ls : Array Slot} {st0 rest : List Value} {a : Array Value} {r : Option Value} {h' : zH} (hr : va_Run p l e R s m args below meth c H locs cells slots mc ms (F0 m pc ls st0) rest (zQ Y r h' a) (yB Y)) (hS : va_S (yB Y) s.heap H locs)
    (kk : ∀ (H1 : Heap) (locs1 : List Loc), yG Y H1 h' → va_S (yB Y) s.heap H1 locs1 → W p l e R s m args below meth c H1 locs1 (cells + mc) (slots + ms) Q (F0 m (pc + 3) ls ((r.map (yv Y)).toList ++ rest))) : W p l e R s m args below meth c H locs cells slots Q (F0 m pc ls st0) := by
  intro T hT X
  obtain ⟨v, st₀, t, T', L, h0, X', hL, e1, e2, ⟨hv, hG, hz, hk⟩, st⟩ := hr T hT X
  cases hv
  rw [h0] at hz hk
  obtain ⟨t2, a1, b1⟩ := kk T'.heap (locs ++ L) (by rw [e1]; exact hG) ⟨Nat.le_trans hS.1 (by rw [e1]; exact hz), fun q h1 h2 => by rw [e1, hk q (Nat.lt_of_lt_of_le h1 hS.1) h2]; exact hS.2.1 q h1 h2, fun q hq => by
      rcases List.mem_append.mp hq with h | h
      · exact hS.2.2 q h
      · exact hL q h⟩ T' rfl X'
  exact ⟨t2, st t2 a1, b1⟩
/-- the words of a method of ours, among ours -/
theorem zGood {M' : zM} (hc : Cond.code M'.1 M'.2.1 M'.2.2.1 M'.2.2.2.1 ∈ zU) : GoodIn zU (Cond.code M'.1 M'.2.1 M'.2.2.1 M'.2.2.2.1 :: zU) := fun w hw => by
  rcases List.mem_cons.mp hw with h | h
  · subst h
    exact ⟨hc, Or.inl rfl⟩
  · exact ⟨h, zU_good w h⟩
theorem zps_map (r : Option Value) (S : List Value) : (zps r S).map (yv Y) = (r.map (yv Y)).toList ++ S.map (yv Y) := by cases r <;> rfl
/-- the world as a callee finds it -/
theorem zPc (X : zX p s m args meth c M Y n0) {H : Heap} {locs : List Loc} (hG : yG Y H h) (hS : va_S (yB Y) s.heap H locs) (as : List Value) : ∀ U : State, U.heap = H → s.WarmedH U.vm → va_Pc (as.map (yv Y)) (fun U => yG Y U.heap h ∧ yK Y U ∧ yO Y U U.heap) (as.map (yv Y)).toArray U := by
  intro U hU hW
  refine ⟨rfl, by rw [hU]; exact hG, X.2.2.2.2.2.2.1.warm hW, ?_⟩
  rw [hU]
  exact yO.moved hW.alike (X.2.2.2.2.2.2.2.1.kept (by have := X.2.2.2.2.2.2.2.2; omega) hS.2.1)
theorem zroom_ok {ls : Array Slot} {S st : List Value} (hr : zroom S = true) : 2 * (F0 m pc ls st).monitorRoom + ((S.map (yv Y)).map fun v => v.category).sum ≤ 8 := by
  rw [yv_sum]
  exact lv_room (Nat.le_of_ble_eq_true hr)
/-- behind a call: the counts -/
theorem zcont {M' : zM} {d' i : Nat} {as : List Value} {r : Option Value} {h' : zH} {H : Heap} {locs : List Loc} {cells slots : Nat} {ls : Array Slot} {st0 : List Value} {a : Array Value} (hl : ylr Y ls M.2.2.1 L) (hS : va_S (yB Y) s.heap H locs) (hc : n0 + cells = h.length) (hs : s0 + slots = zsz h) (g1 : h.length ≤ h'.length) (g2 : zsz h ≤ zsz h') (kJ : zJ p l e R s m args below meth c Q Y M n0 s0 (pc + 3) L (zps r S) h')
    (hr : va_Run p l e R s m args below meth c H locs cells slots (h'.length - h.length) (zsz h' - zsz h) (F0 m pc ls st0) (S.map (yv Y)) (zQ Y r h' a) (yB Y)) : W p l e R s m args below meth c H locs cells slots Q (F0 m pc ls st0) := by
  refine zrun hr hS (fun H1 locs1 hG1 hS1 => ?_)
  have := kJ H1 locs1 (cells + (h'.length - h.length)) (slots + (zsz h' - zsz h)) ls hl hG1 hS1 (by omega) (by omega)
  rw [zps_map] at this
  exact this
theorem zs_callS {i : Nat} {nest : Bool} {M' : zM} {as : List Value} (X : zX p s m args meth c M Y n0) (hR : d ≤ R.frames ∧ 40 * d ≤ R.locals) (hd : decode M.2.1 pc = .ok (.invokestatic i, 3)) (hlk : (nest = false ∧ Cond.methodLink M.1.cls i M'.1 ∈ zU) ∨ (nest = true ∧ Cond.methodLinkNest M.1.cls i M'.1 zhost ∈ lw_tbl)) {x : Nat × Nat × Nat × Nat × Nat} (hw : zwM M' x) (hx : x.2.1 = 0) {n : Nat} (hn : (parseMethodDescriptor M'.1.desc).map (fun x => x.parameters.length) = some n) {ci : Nat} (hM : zmt[ci]? = some M')
    (has : as.length = n) (hroom : zroom S = true) (k : zCt p l e R s m args below meth c Q Y M d n0 s0 (.inr (.inl (ci, as, pc + 3, L, S, h)))) : zJ p l e R s m args below meth c Q Y M n0 s0 pc L (as.reverse ++ S) h := by
  obtain ⟨d', M'', r, h', rfl, hM'', hmet, g1, g2, g3, g4, kJ⟩ := k
  have hMM : M'' = M' := Option.some.inj (hM''.symm.trans hM)
  subst hMM
  intro H locs cells slots ls hl hG hS hc hs
  obtain ⟨w1, w2, w3, w4, w5, w6⟩ := hw
  rw [hx] at w6
  have hst : ((as.reverse ++ S).map (yv Y)) = (as.map (yv Y)).reverse ++ S.map (yv Y) := by rw [List.map_append, List.map_reverse]
  rw [hst]
  refine zcont (i := ci) (d' := d') (M' := M'') (as := as) (a := (as.map (yv Y)).toArray) hl hS hc hs g1 g2 kJ ?_
  rcases hlk with ⟨-, hlk⟩ | ⟨-, hlk⟩
  · exact va_runS (Ts := zU) (own := M.1.cls) ⟨X.1, X.2.1, X.2.2.1, X.2.2.2.1, X.2.2.2.2.1⟩ hmet ⟨callB_of n X.2.2.2.2.1 (zGood w1) rfl rfl rfl (X.2.2.2.2.1 _ w4) (X.2.2.2.2.1 _ hlk) ⟨w5.1, w5.2, hn⟩ ⟨hR.1, by show 8 + (_ + 11) + 40 * d' ≤ _; have := hR.2; omega⟩, X.2.2.2.2.1 _ w6⟩ ⟨zPre.blind, zPc X hG hS as⟩ rfl (by rw [List.length_map]; exact has) hl.1 rfl (zroom_ok hroom) hd ⟨by omega, by omega⟩
  · exact va_runSN (Ts := zU) (own := M.1.cls) (host := zhost) ⟨X.1, X.2.1, X.2.2.1, X.2.2.2.1, X.2.2.2.2.1⟩ hmet ⟨va_cnB n X.2.2.2.2.1 (zGood w1) rfl rfl rfl (X.2.2.2.2.2.2.1.2.1 _ hlk rfl) (X.2.2.2.2.1 _ w4) ⟨w5.1, w5.2, hn⟩ ⟨hR.1, by show 8 + (_ + 11) + 40 * d' ≤ _; have := hR.2; omega⟩, X.2.2.2.2.1 _ w6, trivial⟩ ⟨zPre.blind, zPc X hG hS as⟩ rfl (by rw [List.length_map]; exact has) hl.1 rfl (zroom_ok hroom) hd ⟨by omega, by omega⟩
theorem zs_callI {i : Nat} {nest : Bool} {M' : zM} {as : List Value} {oo : Nat} (X : zX p s m args meth c M Y n0) (hR : d ≤ R.frames ∧ 40 * d ≤ R.locals) (hd : decode M.2.1 pc = .ok (.invokespecial i, 3)) (hlk : (nest = false ∧ Cond.methodLink M.1.cls i M'.1 ∈ zU) ∨ (nest = true ∧ Cond.methodLinkNest M.1.cls i M'.1 zhost ∈ lw_tbl)) {x : Nat × Nat × Nat × Nat × Nat} (hw : zwM M' x) (hx : x.2.1 = 1) {n : Nat} (hn : (parseMethodDescriptor M'.1.desc).map (fun x => x.parameters.length) = some n) {ci : Nat} (hM : zmt[ci]? = some M')
    (has : as.length = n) (hroom : zroom S = true) (k : zCt p l e R s m args below meth c Q Y M d n0 s0 (.inr (.inl (ci, .ref oo :: as, pc + 3, L, S, h)))) : zJ p l e R s m args below meth c Q Y M n0 s0 pc L (as.reverse ++ .ref oo :: S) h := by
  obtain ⟨d', M'', r, h', rfl, hM'', hmet, g1, g2, g3, g4, kJ⟩ := k
  have hMM : M'' = M' := Option.some.inj (hM''.symm.trans hM)
  subst hMM
  intro H locs cells slots ls hl hG hS hc hs
  obtain ⟨w1, w2, w3, w4, w5, w6⟩ := hw
  rw [hx] at w6
  obtain ⟨w6, w7, w8⟩ := w6
  have hst : ((as.reverse ++ .ref oo :: S).map (yv Y)) = (as.map (yv Y)).reverse ++ .ref (ya Y oo) :: S.map (yv Y) := by rw [List.map_append, List.map_reverse]; rfl
  rw [hst]
  refine zcont (i := ci) (d' := d') (M' := M'') (as := as) (a := (Value.ref (ya Y oo) :: as.map (yv Y)).toArray) hl hS hc hs g1 g2 kJ ?_
  unfold zMet at hmet
  rw [w8] at hmet
  have w1' : Cond.code M''.1 M''.2.1 M''.2.2.1 none ∈ zU := by rw [← w8]; exact w1
  have hgood : GoodIn zU (Cond.code M''.1 M''.2.1 M''.2.2.1 none :: zU) := fun w hw => by
    rcases List.mem_cons.mp hw with h | h
    · subst h
      exact ⟨w1', Or.inl rfl⟩
    · exact ⟨h, zU_good w h⟩
  rcases hlk with ⟨-, hlk⟩ | ⟨-, hlk⟩
  · exact va_runI (Ts := zU) (own := M.1.cls) ⟨X.1, X.2.1, X.2.2.1, X.2.2.2.1, X.2.2.2.2.1⟩ hmet ⟨callB_of n X.2.2.2.2.1 hgood rfl rfl rfl (X.2.2.2.2.1 _ w4) (X.2.2.2.2.1 _ hlk) ⟨w5.1, w5.2, hn⟩ ⟨hR.1, by show 8 + (_ + 11) + 40 * d' ≤ _; have := hR.2; omega⟩, w7, X.2.2.2.2.1 _ w6⟩ ⟨zPre.blind, zPc X hG hS (.ref oo :: as)⟩ rfl (by rw [List.length_map]; exact has) hl.1 rfl (zroom_ok hroom) hd ⟨by omega, by omega⟩
  · exact va_runIN (Ts := zU) (own := M.1.cls) (host := zhost) ⟨X.1, X.2.1, X.2.2.1, X.2.2.2.1, X.2.2.2.2.1⟩ hmet ⟨va_cnB n X.2.2.2.2.1 hgood rfl rfl rfl (X.2.2.2.2.2.2.1.2.1 _ hlk rfl) (X.2.2.2.2.1 _ w4) ⟨w5.1, w5.2, hn⟩ ⟨hR.1, by show 8 + (_ + 11) + 40 * d' ≤ _; have := hR.2; omega⟩, w7, X.2.2.2.2.1 _ w6⟩ ⟨zPre.blind, zPc X hG hS (.ref oo :: as)⟩ rfl (by rw [List.length_map]; exact has) hl.1 rfl (zroom_ok hroom) hd ⟨by omega, by omega⟩
theorem zs_callV {i cn : Nat} {M' : zM} {as fs : List Value} {oo : Nat} (X : zX p s m args meth c M Y n0) (hR : d ≤ R.frames ∧ 40 * d ≤ R.locals) (hd : decode M.2.1 pc = .ok (.invokevirtual i, 3)) (hlk : Cond.methodLink M.1.cls i M'.1 ∈ zU) {x : Nat × Nat × Nat × Nat × Nat} (hw : zwM M' x) (hx : x.2.1 = 2) {n : Nat} (hn : (parseMethodDescriptor M'.1.desc).map (fun x => x.parameters.length) = some n) {ci : Nat} (hM : zmt[ci]? = some M')
    (has : as.length = n) (hroom : zroom S = true) (hcn : cn < 10) (hcl : M'.1.cls = zR cn) (hcell : h[oo]? = some (.inr (cn, fs))) (k : zCt p l e R s m args below meth c Q Y M d n0 s0 (.inr (.inl (ci, .ref oo :: as, pc + 3, L, S, h)))) : zJ p l e R s m args below meth c Q Y M n0 s0 pc L (as.reverse ++ .ref oo :: S) h := by
  obtain ⟨d', M'', r, h', rfl, hM'', hmet, g1, g2, g3, g4, kJ⟩ := k
  have hMM : M'' = M' := Option.some.inj (hM''.symm.trans hM)
  subst hMM
  intro H locs cells slots ls hl hG hS hc hs
  obtain ⟨w1, w2, w3, w4, w5, w6⟩ := hw
  rw [hx] at w6
  obtain ⟨w6, w7⟩ := w6
  have hst : ((as.reverse ++ .ref oo :: S).map (yv Y)) = (as.map (yv Y)).reverse ++ .ref (ya Y oo) :: S.map (yv Y) := by rw [List.map_append, List.map_reverse]; rfl
  rw [hst]
  refine zcont (i := ci) (d' := d') (M' := M'') (as := as) (a := (Value.ref (ya Y oo) :: as.map (yv Y)).toArray) hl hS hc hs g1 g2 kJ ?_
  have hrecv := va_recv (ci := cn) (q0 := oo) X.2.2.2.2.2.2.1.1 hG.2.2 (vw_at hcn) (yw_get hcell)
  rw [← hcl] at hrecv
  exact va_runV (Ts := zU) (own := M.1.cls) (C := M''.1.cls) ⟨X.1, X.2.1, X.2.2.1, X.2.2.2.1, X.2.2.2.2.1⟩ hmet ⟨callB_of n X.2.2.2.2.1 (zGood w1) rfl rfl rfl (X.2.2.2.2.1 _ w4) (X.2.2.2.2.1 _ hlk) ⟨w5.1, w5.2, hn⟩ ⟨hR.1, by show 8 + (_ + 11) + 40 * d' ≤ _; have := hR.2; omega⟩, X.2.2.2.2.1 _ w6, X.2.2.2.2.1 _ w7⟩ ⟨zPre.blind, hrecv, zPc X hG hS (.ref oo :: as)⟩ rfl (by rw [List.length_map]; exact has) hl.1 rfl (zroom_ok hroom) hd ⟨by omega, by omega⟩
end ZS4
