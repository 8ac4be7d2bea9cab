/-! SOUNDNESS: from a state of the small machine the Java machine comes to Q -/
/-- what holds of the frame at hand: the machine, the method's code, its words, the world as it was at its entry -/
def zX (p : Program) (s : State) (m : MethodId) (args : Array Value) (meth : Method) (c : Code) (M : zM) (Y : zY) (n0 : Nat) : Prop :=
  p.tables.exec = Jvm.exec ∧ c.code = M.2.1 ∧ c.maxLocals = M.2.2.1 ∧ s.vm.findClass M.1.cls = some m.cls ∧ (∀ w ∈ zU, w.before args s = true) ∧ meth.name = M.1.name ∧ yK Y s ∧ yO Y s s.heap ∧ s.heap.size = Y.2.2.1 + n0
def zJ (p : Program) (l : Launch) (e : Env) (R : Room) (s : State) (m : MethodId) (args : Array Value) (below : List Frame) (meth : Method) (c : Code) (Q : State → Prop) (Y : zY) (M : zM) (n0 s0 pc : Nat) (L : zL) (S : List Value) (h : zH) : Prop :=
  ∀ (H : Heap) (locs : List Loc) (cells slots : Nat) (ls : Array Slot), ylr Y ls M.2.2.1 L → yG Y H h → va_S (yB Y) s.heap H locs → n0 + cells = h.length → s0 + slots = zsz h → W p l e R s m args below meth c H locs cells slots Q (F0 m pc ls (S.map (yv Y)))
/-- a call's contract: with these arguments, over this heap, the method answers r, over the heap h' -/
def zQ (Y : zY) (r : Option Value) (h' : zH) : Array Value → State → Outcome → State → Prop := fun _ st oc t => oc = .returned (r.map (yv Y)) ∧ yG Y t.heap h' ∧ va_F (yB Y) st t
def zMet (l : Launch) (Y : zY) (d : Nat) (M : zM) (as : List Value) (h : zH) (r : Option Value) (h' : zH) : Prop := Met l M.1 (.code M.1 M.2.1 M.2.2.1 M.2.2.2.1 :: zU) { frames := d, cells := h'.length - h.length, slots := zsz h' - zsz h, locals := 40 * d } (va_Pc (as.map (yv Y)) (fun U => yG Y U.heap h ∧ yK Y U ∧ yO Y U U.heap)) (zQ Y r h') (h'.length - h.length) (zsz h' - zsz h) (yB Y)
/-- how a return with the answer r over the heap h ends -/
def zRt (p : Program) (l : Launch) (e : Env) (R : Room) (s : State) (m : MethodId) (args : Array Value) (below : List Frame) (meth : Method) (c : Code) (Q : State → Prop) (Y : zY) (M : zM) (n0 s0 : Nat) (r : Option Value) (h : zH) : Prop :=
  ∀ (pc : Nat) (ls : Array Slot) (H : Heap) (locs : List Loc) (cells slots : Nat), (match r with
    | some (.int v) => decode M.2.1 pc = .ok (.ireturn, 1) ∧ (M.2.2.2.1 = some .int ∨ (M.2.2.2.1 = some .boolean ∧ (v = 0 ∨ v = 1)))
    | some (.long _) => decode M.2.1 pc = .ok (.lreturn, 1) ∧ M.2.2.2.1 = some .long
    | none => decode M.2.1 pc = .ok (.return_, 1) ∧ M.2.2.2.1 = none
    | _ => False) → yG Y H h → va_S (yB Y) s.heap H locs → n0 + cells = h.length → s0 + slots = zsz h → W p l e R s m args below meth c H locs cells slots Q (F0 m pc ls (r.toList.map (yv Y)))
def zCt (p : Program) (l : Launch) (e : Env) (R : Room) (s : State) (m : MethodId) (args : Array Value) (below : List Frame) (meth : Method) (c : Code) (Q : State → Prop) (Y : zY) (M : zM) (d n0 s0 : Nat) (o : zO) : Prop := match o with
  | .inl (pc, L, S, h) => zJ p l e R s m args below meth c Q Y M n0 s0 pc L S h ∧ h.length ≤ n0 + R.cells ∧ zsz h ≤ s0 + R.slots
  | .inr (.inr (r, h)) => zRt p l e R s m args below meth c Q Y M n0 s0 r h
  | .inr (.inl (i, as, pc, L, S, h)) => ∃ (d' : Nat) (M' : zM) (r : Option Value) (h' : zH), d = d' + 1 ∧ zmt[i]? = some M' ∧ zMet l Y d' M' as h r h' ∧ h.length ≤ h'.length ∧ zsz h ≤ zsz h' ∧ h'.length ≤ n0 + R.cells ∧ zsz h' ≤ s0 + R.slots ∧ zJ p l e R s m args below meth c Q Y M n0 s0 pc L (zps r S) h'
section ZS1
variable {p : Program} {l : Launch} {e : Env} {R : Room} {s : State} {m : MethodId} {args : Array Value} {below : List Frame} {meth : Method} {c : Code} {Q : State → Prop} {Y : zY} {M : zM} {d n0 s0 pc : Nat} {L : zL} {S : List Value} {h : zH} {o : zO} {w : (Nat × Nat × Nat × Nat) × (Int32 × Int64) × List Nat}
theorem zs_iconst {n : Int} (X : zX p s m args meth c M Y n0) (hd : decode M.2.1 pc = .ok (.iconst n, 1)) (hv : Int32.ofInt n = w.2.1.1) (ho : zs1 Y.2.2.2.2.2 d M (.iconst n, w) pc L S h = some o) (k : zCt p l e R s m args below meth c Q Y M d n0 s0 o) : zJ p l e R s m args below meth c Q Y M n0 s0 pc L S h := by
  simp only [zs1, zn] at ho
  cases ho
  intro H locs cells slots ls hl hG hS hc hs
  exact lv_iconst X.1 X.2.1 hd hv (k.1 H locs cells slots ls hl hG hS hc hs)
theorem zs_bipush {n : Int} (X : zX p s m args meth c M Y n0) (hd : decode M.2.1 pc = .ok (.bipush n, 2)) (hv : (Int8.ofInt n).toInt32 = w.2.1.1) (ho : zs1 Y.2.2.2.2.2 d M (.bipush n, w) pc L S h = some o) (k : zCt p l e R s m args below meth c Q Y M d n0 s0 o) : zJ p l e R s m args below meth c Q Y M n0 s0 pc L S h := by
  simp only [zs1, zn] at ho
  cases ho
  intro H locs cells slots ls hl hG hS hc hs
  exact lv_bipush X.1 X.2.1 hd hv (k.1 H locs cells slots ls hl hG hS hc hs)
theorem zs_sipush {n : Int} (X : zX p s m args meth c M Y n0) (hd : decode M.2.1 pc = .ok (.sipush n, 3)) (hv : (Int16.ofInt n).toInt32 = w.2.1.1) (ho : zs1 Y.2.2.2.2.2 d M (.sipush n, w) pc L S h = some o) (k : zCt p l e R s m args below meth c Q Y M d n0 s0 o) : zJ p l e R s m args below meth c Q Y M n0 s0 pc L S h := by
  simp only [zs1, zn] at ho
  cases ho
  intro H locs cells slots ls hl hG hS hc hs
  exact lv_sipush X.1 X.2.1 hd hv (k.1 H locs cells slots ls hl hG hS hc hs)
theorem zs_lconst {n : Fin 2} (X : zX p s m args meth c M Y n0) (hd : decode M.2.1 pc = .ok (.lconst n, 1)) (hv : Int64.ofNat (n : Nat) = w.2.1.2) (ho : zs1 Y.2.2.2.2.2 d M (.lconst n, w) pc L S h = some o) (k : zCt p l e R s m args below meth c Q Y M d n0 s0 o) : zJ p l e R s m args below meth c Q Y M n0 s0 pc L S h := by
  simp only [zs1, zn] at ho
  cases ho
  intro H locs cells slots ls hl hG hS hc hs
  exact lv_lconst X.1 X.2.1 hd hv (k.1 H locs cells slots ls hl hG hS hc hs)
theorem zs_ldc_w {n : Nat} (X : zX p s m args meth c M Y n0) (hd : decode M.2.1 pc = .ok (.ldc_w n, 3)) (hv : Cond.constant M.1.cls n w.2.1.1 ∈ zU) (ho : zs1 Y.2.2.2.2.2 d M (.ldc_w n, w) pc L S h = some o) (k : zCt p l e R s m args below meth c Q Y M d n0 s0 o) : zJ p l e R s m args below meth c Q Y M n0 s0 pc L S h := by
  simp only [zs1, zn] at ho
  cases ho
  intro H locs cells slots ls hl hG hS hc hs
  exact lv_ldcw X.1 X.2.1 X.2.2.2.1 (X.2.2.2.2.1 _ hv) hd (k.1 H locs cells slots ls hl hG hS hc hs)
theorem zs_ldc2_w {n : Nat} (X : zX p s m args meth c M Y n0) (hd : decode M.2.1 pc = .ok (.ldc2_w n, 3)) (hv : Cond.constantLong M.1.cls n w.2.1.2 ∈ zU) (ho : zs1 Y.2.2.2.2.2 d M (.ldc2_w n, w) pc L S h = some o) (k : zCt p l e R s m args below meth c Q Y M d n0 s0 o) : zJ p l e R s m args below meth c Q Y M n0 s0 pc L S h := by
  simp only [zs1, zn] at ho
  cases ho
  intro H locs cells slots ls hl hG hS hc hs
  exact lv_ldc2 X.1 X.2.1 X.2.2.2.1 (X.2.2.2.2.1 _ hv) hd (k.1 H locs cells slots ls hl hG hS hc hs)
theorem zs_iload_n {n : Fin 4} (X : zX p s m args meth c M Y n0) (hd : decode M.2.1 pc = .ok (.iload_n n, 1)) (hv : (n : Nat) = w.1.2.1) (ho : zs1 Y.2.2.2.2.2 d M (.iload_n n, w) pc L S h = some o) (k : zCt p l e R s m args below meth c Q Y M d n0 s0 o) : zJ p l e R s m args below meth c Q Y M n0 s0 pc L S h := by
  simp only [zs1, zn] at ho
  split at ho
  · rename_i x hx
    cases ho
    intro H locs cells slots ls hl hG hS hc hs
    exact lv_iload_n X.1 X.2.1 hd hv (hl.at hx) (k.1 H locs cells slots ls hl hG hS hc hs)
  · cases ho
theorem zs_iload {n : Nat} (X : zX p s m args meth c M Y n0) (hd : decode M.2.1 pc = .ok (.iload n, 2)) (hv : n = w.1.2.1) (ho : zs1 Y.2.2.2.2.2 d M (.iload n, w) pc L S h = some o) (k : zCt p l e R s m args below meth c Q Y M d n0 s0 o) : zJ p l e R s m args below meth c Q Y M n0 s0 pc L S h := by
  subst hv
  simp only [zs1, zn] at ho
  split at ho
  · rename_i x hx
    cases ho
    intro H locs cells slots ls hl hG hS hc hs
    exact lv_iload X.1 X.2.1 hd (hl.at hx) (k.1 H locs cells slots ls hl hG hS hc hs)
  · cases ho
theorem zs_lload_n {n : Fin 4} (X : zX p s m args meth c M Y n0) (hd : decode M.2.1 pc = .ok (.lload_n n, 1)) (hv : (n : Nat) = w.1.2.1) (ho : zs1 Y.2.2.2.2.2 d M (.lload_n n, w) pc L S h = some o) (k : zCt p l e R s m args below meth c Q Y M d n0 s0 o) : zJ p l e R s m args below meth c Q Y M n0 s0 pc L S h := by
  simp only [zs1, zn] at ho
  split at ho
  · rename_i x hx
    cases ho
    intro H locs cells slots ls hl hG hS hc hs
    exact lv_lload_n X.1 X.2.1 hd hv (hl.at hx) (k.1 H locs cells slots ls hl hG hS hc hs)
  · cases ho
theorem zs_lload {n : Nat} (X : zX p s m args meth c M Y n0) (hd : decode M.2.1 pc = .ok (.lload n, 2)) (hv : n = w.1.2.1) (ho : zs1 Y.2.2.2.2.2 d M (.lload n, w) pc L S h = some o) (k : zCt p l e R s m args below meth c Q Y M d n0 s0 o) : zJ p l e R s m args below meth c Q Y M n0 s0 pc L S h := by
  subst hv
  simp only [zs1, zn] at ho
  split at ho
  · rename_i x hx
    cases ho
    intro H locs cells slots ls hl hG hS hc hs
    exact lv_lload X.1 X.2.1 hd (hl.at hx) (k.1 H locs cells slots ls hl hG hS hc hs)
  · cases ho
theorem zs_aload_n {n : Fin 4} (X : zX p s m args meth c M Y n0) (hd : decode M.2.1 pc = .ok (.aload_n n, 1)) (hv : (n : Nat) = w.1.2.1) (ho : zs1 Y.2.2.2.2.2 d M (.aload_n n, w) pc L S h = some o) (k : zCt p l e R s m args below meth c Q Y M d n0 s0 o) : zJ p l e R s m args below meth c Q Y M n0 s0 pc L S h := by
  simp only [zs1, zn] at ho
  split at ho
  · rename_i x hx
    cases ho
    intro H locs cells slots ls hl hG hS hc hs
    exact lv_aload_n X.1 X.2.1 hd hv (hl.at hx) (k.1 H locs cells slots ls hl hG hS hc hs)
  · cases ho
theorem zs_aload {n : Nat} (X : zX p s m args meth c M Y n0) (hd : decode M.2.1 pc = .ok (.aload n, 2)) (hv : n = w.1.2.1) (ho : zs1 Y.2.2.2.2.2 d M (.aload n, w) pc L S h = some o) (k : zCt p l e R s m args below meth c Q Y M d n0 s0 o) : zJ p l e R s m args below meth c Q Y M n0 s0 pc L S h := by
  subst hv
  simp only [zs1, zn] at ho
  split at ho
  · rename_i x hx
    cases ho
    intro H locs cells slots ls hl hG hS hc hs
    exact lv_aload X.1 X.2.1 hd (hl.at hx) (k.1 H locs cells slots ls hl hG hS hc hs)
  · cases ho
theorem zs_istore_n {n : Fin 4} (X : zX p s m args meth c M Y n0) (hd : decode M.2.1 pc = .ok (.istore_n n, 1)) (hv : (n : Nat) = w.1.2.1) (ho : zs1 Y.2.2.2.2.2 d M (.istore_n n, w) pc L S h = some o) (k : zCt p l e R s m args below meth c Q Y M d n0 s0 o) : zJ p l e R s m args below meth c Q Y M n0 s0 pc L S h := by
  simp only [zs1, zn] at ho
  split at ho
  · rename_i x S'
    split at ho
    · rename_i L' hL'
      cases ho
      intro H locs cells slots ls hl hG hS hc hs
      have hlt := (zst1_get hL').1
      exact lv_istore_n X.1 X.2.1 hd hv hl.has (by rw [← hl.2.2.1]; exact hlt) rfl (fun ls' hl' => k.1 H locs cells slots ls' (ylr.st1 hL' hl.2.2.1 hl') hG hS hc hs)
    · cases ho
  · cases ho
theorem zs_istore {n : Nat} (X : zX p s m args meth c M Y n0) (hd : decode M.2.1 pc = .ok (.istore n, 2)) (hv : n = w.1.2.1) (ho : zs1 Y.2.2.2.2.2 d M (.istore n, w) pc L S h = some o) (k : zCt p l e R s m args below meth c Q Y M d n0 s0 o) : zJ p l e R s m args below meth c Q Y M n0 s0 pc L S h := by
  subst hv
  simp only [zs1, zn] at ho
  split at ho
  · rename_i x S'
    split at ho
    · rename_i L' hL'
      cases ho
      intro H locs cells slots ls hl hG hS hc hs
      have hlt := (zst1_get hL').1
      exact lv_istore X.1 X.2.1 hd hl.has (by rw [← hl.2.2.1]; exact hlt) rfl (fun ls' hl' => k.1 H locs cells slots ls' (ylr.st1 hL' hl.2.2.1 hl') hG hS hc hs)
    · cases ho
  · cases ho
theorem zs_astore_n {n : Fin 4} (X : zX p s m args meth c M Y n0) (hd : decode M.2.1 pc = .ok (.astore_n n, 1)) (hv : (n : Nat) = w.1.2.1) (ho : zs1 Y.2.2.2.2.2 d M (.astore_n n, w) pc L S h = some o) (k : zCt p l e R s m args below meth c Q Y M d n0 s0 o) : zJ p l e R s m args below meth c Q Y M n0 s0 pc L S h := by
  simp only [zs1, zn] at ho
  split at ho
  · rename_i x S'
    split at ho
    · rename_i L' hL'
      cases ho
      intro H locs cells slots ls hl hG hS hc hs
      have hlt := (zst1_get hL').1
      exact lv_astore_n X.1 X.2.1 hd hv hl.has (by rw [← hl.2.2.1]; exact hlt) rfl (fun ls' hl' => k.1 H locs cells slots ls' (ylr.st1 hL' hl.2.2.1 hl') hG hS hc hs)
    · cases ho
  · cases ho
theorem zs_lstore_n {n : Fin 4} (X : zX p s m args meth c M Y n0) (hd : decode M.2.1 pc = .ok (.lstore_n n, 1)) (hv : (n : Nat) = w.1.2.1) (ho : zs1 Y.2.2.2.2.2 d M (.lstore_n n, w) pc L S h = some o) (k : zCt p l e R s m args below meth c Q Y M d n0 s0 o) : zJ p l e R s m args below meth c Q Y M n0 s0 pc L S h := by
  simp only [zs1, zn] at ho
  split at ho
  · rename_i x S'
    split at ho
    · rename_i L' hL'
      cases ho
      intro H locs cells slots ls hl hG hS hc hs
      have hlt := (zst2_get hL').1
      exact lv_lstore_n X.1 X.2.1 hd hv hl.has (by rw [← hl.2.2.1]; exact hlt) rfl (fun ls' hl' => k.1 H locs cells slots ls' (ylr.st2 hL' hl.2.2.1 hl') hG hS hc hs)
    · cases ho
  · cases ho
theorem zs_lstore {n : Nat} (X : zX p s m args meth c M Y n0) (hd : decode M.2.1 pc = .ok (.lstore n, 2)) (hv : n = w.1.2.1) (ho : zs1 Y.2.2.2.2.2 d M (.lstore n, w) pc L S h = some o) (k : zCt p l e R s m args below meth c Q Y M d n0 s0 o) : zJ p l e R s m args below meth c Q Y M n0 s0 pc L S h := by
  subst hv
  simp only [zs1, zn] at ho
  split at ho
  · rename_i x S'
    split at ho
    · rename_i L' hL'
      cases ho
      intro H locs cells slots ls hl hG hS hc hs
      have hlt := (zst2_get hL').1
      exact lv_lstore X.1 X.2.1 hd hl.has (by rw [← hl.2.2.1]; exact hlt) rfl (fun ls' hl' => k.1 H locs cells slots ls' (ylr.st2 hL' hl.2.2.1 hl') hG hS hc hs)
    · cases ho
  · cases ho
theorem zs_iinc {n : Nat} {z : Int} (X : zX p s m args meth c M Y n0) (hd : decode M.2.1 pc = .ok (.iinc n z, 3)) (hv : n = w.1.2.1) (hz : Int32.ofInt z = w.2.1.1) (ho : zs1 Y.2.2.2.2.2 d M (.iinc n z, w) pc L S h = some o) (k : zCt p l e R s m args below meth c Q Y M d n0 s0 o) : zJ p l e R s m args below meth c Q Y M n0 s0 pc L S h := by
  subst hv
  simp only [zs1, zn] at ho
  split at ho
  · rename_i x hx
    split at ho
    · rename_i L' hL'
      cases ho
      intro H locs cells slots ls hl hG hS hc hs
      have hlt := (zst1_get hL').1
      have hmem : (w.1.2.1, Value.int x) ∈ yas Y L := yas_mem.mpr ⟨.int x, by
        unfold zg at hx
        cases hq : L[w.1.2.1]? with
        | none => rw [hq] at hx; cases hx
        | some oo =>
          cases oo with
          | none => rw [hq] at hx; cases hx
          | some vv => rw [hq] at hx; cases hx; rfl, rfl⟩
      obtain ⟨kk, hkk⟩ := List.getElem?_of_mem hmem
      exact lv_iinc (v := x + w.2.1.1) X.1 X.2.1 hd hl.has hkk (by rw [hz]) (by rw [← hl.2.2.1]; exact hlt) rfl (fun ls' hl' => k.1 H locs cells slots ls' (ylr.st1 (v := .int (x + w.2.1.1)) hL' hl.2.2.1 hl') hG hS hc hs)
    · cases ho
  · cases ho
theorem zs_iadd (X : zX p s m args meth c M Y n0) (hd : decode M.2.1 pc = .ok (.iadd, 1)) (ho : zs1 Y.2.2.2.2.2 d M (.iadd, w) pc L S h = some o) (k : zCt p l e R s m args below meth c Q Y M d n0 s0 o) : zJ p l e R s m args below meth c Q Y M n0 s0 pc L S h := by
  simp only [zs1, zn] at ho
  split at ho
  · cases ho
    intro H locs cells slots ls hl hG hS hc hs
    exact lv_iadd X.1 X.2.1 hd (k.1 H locs cells slots ls hl hG hS hc hs)
  · cases ho
theorem zs_isub (X : zX p s m args meth c M Y n0) (hd : decode M.2.1 pc = .ok (.isub, 1)) (ho : zs1 Y.2.2.2.2.2 d M (.isub, w) pc L S h = some o) (k : zCt p l e R s m args below meth c Q Y M d n0 s0 o) : zJ p l e R s m args below meth c Q Y M n0 s0 pc L S h := by
  simp only [zs1, zn] at ho
  split at ho
  · cases ho
    intro H locs cells slots ls hl hG hS hc hs
    exact lv_isub X.1 X.2.1 hd (k.1 H locs cells slots ls hl hG hS hc hs)
  · cases ho
theorem zs_imul (X : zX p s m args meth c M Y n0) (hd : decode M.2.1 pc = .ok (.imul, 1)) (ho : zs1 Y.2.2.2.2.2 d M (.imul, w) pc L S h = some o) (k : zCt p l e R s m args below meth c Q Y M d n0 s0 o) : zJ p l e R s m args below meth c Q Y M n0 s0 pc L S h := by
  simp only [zs1, zn] at ho
  split at ho
  · cases ho
    intro H locs cells slots ls hl hG hS hc hs
    exact lv_imul X.1 X.2.1 hd (k.1 H locs cells slots ls hl hG hS hc hs)
  · cases ho
theorem zs_iand (X : zX p s m args meth c M Y n0) (hd : decode M.2.1 pc = .ok (.iand, 1)) (ho : zs1 Y.2.2.2.2.2 d M (.iand, w) pc L S h = some o) (k : zCt p l e R s m args below meth c Q Y M d n0 s0 o) : zJ p l e R s m args below meth c Q Y M n0 s0 pc L S h := by
  simp only [zs1, zn] at ho
  split at ho
  · cases ho
    intro H locs cells slots ls hl hG hS hc hs
    exact lv_iand X.1 X.2.1 hd (k.1 H locs cells slots ls hl hG hS hc hs)
  · cases ho
theorem zs_ior (X : zX p s m args meth c M Y n0) (hd : decode M.2.1 pc = .ok (.ior, 1)) (ho : zs1 Y.2.2.2.2.2 d M (.ior, w) pc L S h = some o) (k : zCt p l e R s m args below meth c Q Y M d n0 s0 o) : zJ p l e R s m args below meth c Q Y M n0 s0 pc L S h := by
  simp only [zs1, zn] at ho
  split at ho
  · cases ho
    intro H locs cells slots ls hl hG hS hc hs
    exact lv_ior X.1 X.2.1 hd (k.1 H locs cells slots ls hl hG hS hc hs)
  · cases ho
theorem zs_ixor (X : zX p s m args meth c M Y n0) (hd : decode M.2.1 pc = .ok (.ixor, 1)) (ho : zs1 Y.2.2.2.2.2 d M (.ixor, w) pc L S h = some o) (k : zCt p l e R s m args below meth c Q Y M d n0 s0 o) : zJ p l e R s m args below meth c Q Y M n0 s0 pc L S h := by
  simp only [zs1, zn] at ho
  split at ho
  · cases ho
    intro H locs cells slots ls hl hG hS hc hs
    exact lv_ixor X.1 X.2.1 hd (k.1 H locs cells slots ls hl hG hS hc hs)
  · cases ho
theorem zs_ishl (X : zX p s m args meth c M Y n0) (hd : decode M.2.1 pc = .ok (.ishl, 1)) (ho : zs1 Y.2.2.2.2.2 d M (.ishl, w) pc L S h = some o) (k : zCt p l e R s m args below meth c Q Y M d n0 s0 o) : zJ p l e R s m args below meth c Q Y M n0 s0 pc L S h := by
  simp only [zs1, zn] at ho
  split at ho
  · cases ho
    intro H locs cells slots ls hl hG hS hc hs
    exact lv_ishl X.1 X.2.1 hd (k.1 H locs cells slots ls hl hG hS hc hs)
  · cases ho
theorem zs_ishr (X : zX p s m args meth c M Y n0) (hd : decode M.2.1 pc = .ok (.ishr, 1)) (ho : zs1 Y.2.2.2.2.2 d M (.ishr, w) pc L S h = some o) (k : zCt p l e R s m args below meth c Q Y M d n0 s0 o) : zJ p l e R s m args below meth c Q Y M n0 s0 pc L S h := by
  simp only [zs1, zn] at ho
  split at ho
  · cases ho
    intro H locs cells slots ls hl hG hS hc hs
    exact lv_ishr X.1 X.2.1 hd (k.1 H locs cells slots ls hl hG hS hc hs)
  · cases ho
theorem zs_ladd (X : zX p s m args meth c M Y n0) (hd : decode M.2.1 pc = .ok (.ladd, 1)) (ho : zs1 Y.2.2.2.2.2 d M (.ladd, w) pc L S h = some o) (k : zCt p l e R s m args below meth c Q Y M d n0 s0 o) : zJ p l e R s m args below meth c Q Y M n0 s0 pc L S h := by
  simp only [zs1, zn] at ho
  split at ho
  · cases ho
    intro H locs cells slots ls hl hG hS hc hs
    exact lv_ladd X.1 X.2.1 hd (k.1 H locs cells slots ls hl hG hS hc hs)
  · cases ho
theorem zs_lmul (X : zX p s m args meth c M Y n0) (hd : decode M.2.1 pc = .ok (.lmul, 1)) (ho : zs1 Y.2.2.2.2.2 d M (.lmul, w) pc L S h = some o) (k : zCt p l e R s m args below meth c Q Y M d n0 s0 o) : zJ p l e R s m args below meth c Q Y M n0 s0 pc L S h := by
  simp only [zs1, zn] at ho
  split at ho
  · cases ho
    intro H locs cells slots ls hl hG hS hc hs
    exact lv_lmul X.1 X.2.1 hd (k.1 H locs cells slots ls hl hG hS hc hs)
  · cases ho
theorem zs_land (X : zX p s m args meth c M Y n0) (hd : decode M.2.1 pc = .ok (.land, 1)) (ho : zs1 Y.2.2.2.2.2 d M (.land, w) pc L S h = some o) (k : zCt p l e R s m args below meth c Q Y M d n0 s0 o) : zJ p l e R s m args below meth c Q Y M n0 s0 pc L S h := by
  simp only [zs1, zn] at ho
  split at ho
  · cases ho
    intro H locs cells slots ls hl hG hS hc hs
    exact lv_land X.1 X.2.1 hd (k.1 H locs cells slots ls hl hG hS hc hs)
  · cases ho
theorem zs_lor (X : zX p s m args meth c M Y n0) (hd : decode M.2.1 pc = .ok (.lor, 1)) (ho : zs1 Y.2.2.2.2.2 d M (.lor, w) pc L S h = some o) (k : zCt p l e R s m args below meth c Q Y M d n0 s0 o) : zJ p l e R s m args below meth c Q Y M n0 s0 pc L S h := by
  simp only [zs1, zn] at ho
  split at ho
  · cases ho
    intro H locs cells slots ls hl hG hS hc hs
    exact lv_lor X.1 X.2.1 hd (k.1 H locs cells slots ls hl hG hS hc hs)
  · cases ho
theorem zs_iushr (X : zX p s m args meth c M Y n0) (hd : decode M.2.1 pc = .ok (.iushr, 1)) (ho : zs1 Y.2.2.2.2.2 d M (.iushr, w) pc L S h = some o) (k : zCt p l e R s m args below meth c Q Y M d n0 s0 o) : zJ p l e R s m args below meth c Q Y M n0 s0 pc L S h := by
  simp only [zs1, zn] at ho
  split at ho
  · cases ho
    intro H locs cells slots ls hl hG hS hc hs
    exact lv_iushr X.1 X.2.1 hd rfl (k.1 H locs cells slots ls hl hG hS hc hs)
  · cases ho
theorem zs_lshl (X : zX p s m args meth c M Y n0) (hd : decode M.2.1 pc = .ok (.lshl, 1)) (ho : zs1 Y.2.2.2.2.2 d M (.lshl, w) pc L S h = some o) (k : zCt p l e R s m args below meth c Q Y M d n0 s0 o) : zJ p l e R s m args below meth c Q Y M n0 s0 pc L S h := by
  simp only [zs1, zn] at ho
  split at ho
  · cases ho
    intro H locs cells slots ls hl hG hS hc hs
    exact lv_lshl X.1 X.2.1 hd rfl (k.1 H locs cells slots ls hl hG hS hc hs)
  · cases ho
theorem zs_lshr (X : zX p s m args meth c M Y n0) (hd : decode M.2.1 pc = .ok (.lshr, 1)) (ho : zs1 Y.2.2.2.2.2 d M (.lshr, w) pc L S h = some o) (k : zCt p l e R s m args below meth c Q Y M d n0 s0 o) : zJ p l e R s m args below meth c Q Y M n0 s0 pc L S h := by
  simp only [zs1, zn] at ho
  split at ho
  · cases ho
    intro H locs cells slots ls hl hG hS hc hs
    exact lv_lshr X.1 X.2.1 hd rfl (k.1 H locs cells slots ls hl hG hS hc hs)
  · cases ho
theorem zs_lushr (X : zX p s m args meth c M Y n0) (hd : decode M.2.1 pc = .ok (.lushr, 1)) (ho : zs1 Y.2.2.2.2.2 d M (.lushr, w) pc L S h = some o) (k : zCt p l e R s m args below meth c Q Y M d n0 s0 o) : zJ p l e R s m args below meth c Q Y M n0 s0 pc L S h := by
  simp only [zs1, zn] at ho
  split at ho
  · cases ho
    intro H locs cells slots ls hl hG hS hc hs
    exact lv_lushr X.1 X.2.1 hd rfl (k.1 H locs cells slots ls hl hG hS hc hs)
  · cases ho
theorem zs_i2l (X : zX p s m args meth c M Y n0) (hd : decode M.2.1 pc = .ok (.i2l, 1)) (ho : zs1 Y.2.2.2.2.2 d M (.i2l, w) pc L S h = some o) (k : zCt p l e R s m args below meth c Q Y M d n0 s0 o) : zJ p l e R s m args below meth c Q Y M n0 s0 pc L S h := by
  simp only [zs1, zn] at ho
  split at ho
  · cases ho
    intro H locs cells slots ls hl hG hS hc hs
    exact lv_i2l X.1 X.2.1 hd rfl (k.1 H locs cells slots ls hl hG hS hc hs)
  · cases ho
theorem zs_l2i (X : zX p s m args meth c M Y n0) (hd : decode M.2.1 pc = .ok (.l2i, 1)) (ho : zs1 Y.2.2.2.2.2 d M (.l2i, w) pc L S h = some o) (k : zCt p l e R s m args below meth c Q Y M d n0 s0 o) : zJ p l e R s m args below meth c Q Y M n0 s0 pc L S h := by
  simp only [zs1, zn] at ho
  split at ho
  · cases ho
    intro H locs cells slots ls hl hG hS hc hs
    exact lv_l2i X.1 X.2.1 hd rfl (k.1 H locs cells slots ls hl hG hS hc hs)
  · cases ho
theorem zs_lcmp (X : zX p s m args meth c M Y n0) (hd : decode M.2.1 pc = .ok (.lcmp, 1)) (ho : zs1 Y.2.2.2.2.2 d M (.lcmp, w) pc L S h = some o) (k : zCt p l e R s m args below meth c Q Y M d n0 s0 o) : zJ p l e R s m args below meth c Q Y M n0 s0 pc L S h := by
  simp only [zs1, zn] at ho
  split at ho
  · cases ho
    intro H locs cells slots ls hl hG hS hc hs
    exact W.lcmp X.1 X.2.1 hd (k.1 H locs cells slots ls hl hG hS hc hs)
  · cases ho
theorem zs_idiv (X : zX p s m args meth c M Y n0) (hd : decode M.2.1 pc = .ok (.idiv, 1)) (ho : zs1 Y.2.2.2.2.2 d M (.idiv, w) pc L S h = some o) (k : zCt p l e R s m args below meth c Q Y M d n0 s0 o) : zJ p l e R s m args below meth c Q Y M n0 s0 pc L S h := by
  simp only [zs1, zn] at ho
  split at ho
  · split at ho
    · cases ho
    · rename_i hne
      cases ho
      intro H locs cells slots ls hl hG hS hc hs
      exact lv_idiv X.1 X.2.1 hd hne (k.1 H locs cells slots ls hl hG hS hc hs)
  · cases ho
theorem zs_irem (X : zX p s m args meth c M Y n0) (hd : decode M.2.1 pc = .ok (.irem, 1)) (ho : zs1 Y.2.2.2.2.2 d M (.irem, w) pc L S h = some o) (k : zCt p l e R s m args below meth c Q Y M d n0 s0 o) : zJ p l e R s m args below meth c Q Y M n0 s0 pc L S h := by
  simp only [zs1, zn] at ho
  split at ho
  · split at ho
    · cases ho
    · rename_i hne
      cases ho
      intro H locs cells slots ls hl hG hS hc hs
      exact lv_irem X.1 X.2.1 hd hne (k.1 H locs cells slots ls hl hG hS hc hs)
  · cases ho
theorem zs_ldiv (X : zX p s m args meth c M Y n0) (hd : decode M.2.1 pc = .ok (.ldiv, 1)) (ho : zs1 Y.2.2.2.2.2 d M (.ldiv, w) pc L S h = some o) (k : zCt p l e R s m args below meth c Q Y M d n0 s0 o) : zJ p l e R s m args below meth c Q Y M n0 s0 pc L S h := by
  simp only [zs1, zn] at ho
  split at ho
  · split at ho
    · cases ho
    · rename_i hne
      cases ho
      intro H locs cells slots ls hl hG hS hc hs
      exact lv_ldiv X.1 X.2.1 hd hne (k.1 H locs cells slots ls hl hG hS hc hs)
  · cases ho
theorem zs_lrem (X : zX p s m args meth c M Y n0) (hd : decode M.2.1 pc = .ok (.lrem, 1)) (ho : zs1 Y.2.2.2.2.2 d M (.lrem, w) pc L S h = some o) (k : zCt p l e R s m args below meth c Q Y M d n0 s0 o) : zJ p l e R s m args below meth c Q Y M n0 s0 pc L S h := by
  simp only [zs1, zn] at ho
  split at ho
  · split at ho
    · cases ho
    · rename_i hne
      cases ho
      intro H locs cells slots ls hl hG hS hc hs
      exact lv_lrem X.1 X.2.1 hd hne (k.1 H locs cells slots ls hl hG hS hc hs)
  · cases ho
theorem zs_dup (X : zX p s m args meth c M Y n0) (hd : decode M.2.1 pc = .ok (.dup, 1)) (ho : zs1 Y.2.2.2.2.2 d M (.dup, w) pc L S h = some o) (k : zCt p l e R s m args below meth c Q Y M d n0 s0 o) : zJ p l e R s m args below meth c Q Y M n0 s0 pc L S h := by
  simp only [zs1, zn] at ho
  split at ho
  · cases ho
    intro H locs cells slots ls hl hG hS hc hs
    exact lv_dup X.1 X.2.1 hd rfl (k.1 H locs cells slots ls hl hG hS hc hs)
  · cases ho
    intro H locs cells slots ls hl hG hS hc hs
    exact lv_dup X.1 X.2.1 hd rfl (k.1 H locs cells slots ls hl hG hS hc hs)
  · cases ho
theorem zs_dup2 (X : zX p s m args meth c M Y n0) (hd : decode M.2.1 pc = .ok (.dup2, 1)) (ho : zs1 Y.2.2.2.2.2 d M (.dup2, w) pc L S h = some o) (k : zCt p l e R s m args below meth c Q Y M d n0 s0 o) : zJ p l e R s m args below meth c Q Y M n0 s0 pc L S h := by
  simp only [zs1, zn] at ho
  split at ho
  · cases ho
    intro H locs cells slots ls hl hG hS hc hs
    exact lv_dup2_11 X.1 X.2.1 hd rfl rfl (k.1 H locs cells slots ls hl hG hS hc hs)
  · cases ho
    intro H locs cells slots ls hl hG hS hc hs
    exact lv_dup2_11 X.1 X.2.1 hd rfl rfl (k.1 H locs cells slots ls hl hG hS hc hs)
  · cases ho
    intro H locs cells slots ls hl hG hS hc hs
    exact lv_dup2_2 X.1 X.2.1 hd rfl (k.1 H locs cells slots ls hl hG hS hc hs)
  · cases ho
theorem zs_goto {n : Int} (X : zX p s m args meth c M Y n0) (hd : decode M.2.1 pc = .ok (.goto n, 3)) (hv : (pc : Int) + n = (w.1.2.1 : Int)) (ho : zs1 Y.2.2.2.2.2 d M (.goto n, w) pc L S h = some o) (k : zCt p l e R s m args below meth c Q Y M d n0 s0 o) : zJ p l e R s m args below meth c Q Y M n0 s0 pc L S h := by
  simp only [zs1, zn] at ho
  cases ho
  intro H locs cells slots ls hl hG hS hc hs
  exact lv_goto X.1 X.2.1 hd hv (k.1 H locs cells slots ls hl hG hS hc hs)
theorem zs_if_eq {n : Int} (X : zX p s m args meth c M Y n0) (hd : decode M.2.1 pc = .ok (.ifCond .eq n, 3)) (hv : (pc : Int) + n = (w.1.2.1 : Int)) (ho : zs1 Y.2.2.2.2.2 d M (.ifCond .eq n, w) pc L S h = some o) (k : zCt p l e R s m args below meth c Q Y M d n0 s0 o) : zJ p l e R s m args below meth c Q Y M n0 s0 pc L S h := by
  simp only [zs1, zn] at ho
  split at ho
  · split at ho
    · rename_i hq
      cases ho
      intro H locs cells slots ls hl hG hS hc hs
      exact lv_if_eq X.1 X.2.1 hd hv (fun _ => (k.1 H locs cells slots ls hl hG hS hc hs)) (fun q => absurd hq q)
    · rename_i hq
      cases ho
      intro H locs cells slots ls hl hG hS hc hs
      exact lv_if_eq X.1 X.2.1 hd hv (fun q => absurd q hq) (fun _ => (k.1 H locs cells slots ls hl hG hS hc hs))
  · cases ho
theorem zs_if_ne {n : Int} (X : zX p s m args meth c M Y n0) (hd : decode M.2.1 pc = .ok (.ifCond .ne n, 3)) (hv : (pc : Int) + n = (w.1.2.1 : Int)) (ho : zs1 Y.2.2.2.2.2 d M (.ifCond .ne n, w) pc L S h = some o) (k : zCt p l e R s m args below meth c Q Y M d n0 s0 o) : zJ p l e R s m args below meth c Q Y M n0 s0 pc L S h := by
  simp only [zs1, zn] at ho
  split at ho
  · split at ho
    · rename_i hq
      cases ho
      intro H locs cells slots ls hl hG hS hc hs
      exact lv_if_ne X.1 X.2.1 hd hv (fun q => absurd hq q) (fun _ => (k.1 H locs cells slots ls hl hG hS hc hs))
    · rename_i hq
      cases ho
      intro H locs cells slots ls hl hG hS hc hs
      exact lv_if_ne X.1 X.2.1 hd hv (fun _ => (k.1 H locs cells slots ls hl hG hS hc hs)) (fun q => absurd q hq)
  · cases ho
theorem zs_if_lt {n : Int} (X : zX p s m args meth c M Y n0) (hd : decode M.2.1 pc = .ok (.ifCond .lt n, 3)) (hv : (pc : Int) + n = (w.1.2.1 : Int)) (ho : zs1 Y.2.2.2.2.2 d M (.ifCond .lt n, w) pc L S h = some o) (k : zCt p l e R s m args below meth c Q Y M d n0 s0 o) : zJ p l e R s m args below meth c Q Y M n0 s0 pc L S h := by
  simp only [zs1, zn] at ho
  split at ho
  · split at ho
    · rename_i hq
      cases ho
      intro H locs cells slots ls hl hG hS hc hs
      exact lv_if_lt X.1 X.2.1 hd hv (fun _ => (k.1 H locs cells slots ls hl hG hS hc hs)) (fun q => absurd hq q)
    · rename_i hq
      cases ho
      intro H locs cells slots ls hl hG hS hc hs
      exact lv_if_lt X.1 X.2.1 hd hv (fun q => absurd q hq) (fun _ => (k.1 H locs cells slots ls hl hG hS hc hs))
  · cases ho
theorem zs_if_ge {n : Int} (X : zX p s m args meth c M Y n0) (hd : decode M.2.1 pc = .ok (.ifCond .ge n, 3)) (hv : (pc : Int) + n = (w.1.2.1 : Int)) (ho : zs1 Y.2.2.2.2.2 d M (.ifCond .ge n, w) pc L S h = some o) (k : zCt p l e R s m args below meth c Q Y M d n0 s0 o) : zJ p l e R s m args below meth c Q Y M n0 s0 pc L S h := by
  simp only [zs1, zn] at ho
  split at ho
  · split at ho
    · rename_i hq
      cases ho
      intro H locs cells slots ls hl hG hS hc hs
      exact lv_if_ge X.1 X.2.1 hd hv (fun q => absurd hq (Int32.not_lt.mpr q)) (fun _ => (k.1 H locs cells slots ls hl hG hS hc hs))
    · rename_i hq
      cases ho
      intro H locs cells slots ls hl hG hS hc hs
      exact lv_if_ge X.1 X.2.1 hd hv (fun _ => (k.1 H locs cells slots ls hl hG hS hc hs)) (fun q => absurd (Int32.not_lt.mp hq) q)
  · cases ho
theorem zs_if_gt {n : Int} (X : zX p s m args meth c M Y n0) (hd : decode M.2.1 pc = .ok (.ifCond .gt n, 3)) (hv : (pc : Int) + n = (w.1.2.1 : Int)) (ho : zs1 Y.2.2.2.2.2 d M (.ifCond .gt n, w) pc L S h = some o) (k : zCt p l e R s m args below meth c Q Y M d n0 s0 o) : zJ p l e R s m args below meth c Q Y M n0 s0 pc L S h := by
  simp only [zs1, zn] at ho
  split at ho
  · split at ho
    · rename_i hq
      cases ho
      intro H locs cells slots ls hl hG hS hc hs
      exact lv_if_gt X.1 X.2.1 hd hv (fun _ => (k.1 H locs cells slots ls hl hG hS hc hs)) (fun q => absurd hq q)
    · rename_i hq
      cases ho
      intro H locs cells slots ls hl hG hS hc hs
      exact lv_if_gt X.1 X.2.1 hd hv (fun q => absurd q hq) (fun _ => (k.1 H locs cells slots ls hl hG hS hc hs))
  · cases ho
theorem zs_if_le {n : Int} (X : zX p s m args meth c M Y n0) (hd : decode M.2.1 pc = .ok (.ifCond .le n, 3)) (hv : (pc : Int) + n = (w.1.2.1 : Int)) (ho : zs1 Y.2.2.2.2.2 d M (.ifCond .le n, w) pc L S h = some o) (k : zCt p l e R s m args below meth c Q Y M d n0 s0 o) : zJ p l e R s m args below meth c Q Y M n0 s0 pc L S h := by
  simp only [zs1, zn] at ho
  split at ho
  · split at ho
    · rename_i hq
      cases ho
      intro H locs cells slots ls hl hG hS hc hs
      exact lv_if_le X.1 X.2.1 hd hv (fun q => absurd hq (Int32.not_lt.mpr q)) (fun _ => (k.1 H locs cells slots ls hl hG hS hc hs))
    · rename_i hq
      cases ho
      intro H locs cells slots ls hl hG hS hc hs
      exact lv_if_le X.1 X.2.1 hd hv (fun _ => (k.1 H locs cells slots ls hl hG hS hc hs)) (fun q => absurd (Int32.not_lt.mp hq) q)
  · cases ho
theorem zs_icmp_eq {n : Int} (X : zX p s m args meth c M Y n0) (hd : decode M.2.1 pc = .ok (.if_icmp .eq n, 3)) (hv : (pc : Int) + n = (w.1.2.1 : Int)) (ho : zs1 Y.2.2.2.2.2 d M (.if_icmp .eq n, w) pc L S h = some o) (k : zCt p l e R s m args below meth c Q Y M d n0 s0 o) : zJ p l e R s m args below meth c Q Y M n0 s0 pc L S h := by
  simp only [zs1, zn] at ho
  split at ho
  · split at ho
    · rename_i hq
      cases ho
      intro H locs cells slots ls hl hG hS hc hs
      exact lv_icmp_eq X.1 X.2.1 hd hv (fun _ => (k.1 H locs cells slots ls hl hG hS hc hs)) (fun q => absurd hq q)
    · rename_i hq
      cases ho
      intro H locs cells slots ls hl hG hS hc hs
      exact lv_icmp_eq X.1 X.2.1 hd hv (fun q => absurd q hq) (fun _ => (k.1 H locs cells slots ls hl hG hS hc hs))
  · cases ho
theorem zs_icmp_ne {n : Int} (X : zX p s m args meth c M Y n0) (hd : decode M.2.1 pc = .ok (.if_icmp .ne n, 3)) (hv : (pc : Int) + n = (w.1.2.1 : Int)) (ho : zs1 Y.2.2.2.2.2 d M (.if_icmp .ne n, w) pc L S h = some o) (k : zCt p l e R s m args below meth c Q Y M d n0 s0 o) : zJ p l e R s m args below meth c Q Y M n0 s0 pc L S h := by
  simp only [zs1, zn] at ho
  split at ho
  · split at ho
    · rename_i hq
      cases ho
      intro H locs cells slots ls hl hG hS hc hs
      exact lv_icmp_ne X.1 X.2.1 hd hv (fun q => absurd hq q) (fun _ => (k.1 H locs cells slots ls hl hG hS hc hs))
    · rename_i hq
      cases ho
      intro H locs cells slots ls hl hG hS hc hs
      exact lv_icmp_ne X.1 X.2.1 hd hv (fun _ => (k.1 H locs cells slots ls hl hG hS hc hs)) (fun q => absurd q hq)
  · cases ho
theorem zs_icmp_lt {n : Int} (X : zX p s m args meth c M Y n0) (hd : decode M.2.1 pc = .ok (.if_icmp .lt n, 3)) (hv : (pc : Int) + n = (w.1.2.1 : Int)) (ho : zs1 Y.2.2.2.2.2 d M (.if_icmp .lt n, w) pc L S h = some o) (k : zCt p l e R s m args below meth c Q Y M d n0 s0 o) : zJ p l e R s m args below meth c Q Y M n0 s0 pc L S h := by
  simp only [zs1, zn] at ho
  split at ho
  · split at ho
    · rename_i hq
      cases ho
      intro H locs cells slots ls hl hG hS hc hs
      exact lv_icmp_lt X.1 X.2.1 hd hv (fun _ => (k.1 H locs cells slots ls hl hG hS hc hs)) (fun q => absurd hq q)
    · rename_i hq
      cases ho
      intro H locs cells slots ls hl hG hS hc hs
      exact lv_icmp_lt X.1 X.2.1 hd hv (fun q => absurd q hq) (fun _ => (k.1 H locs cells slots ls hl hG hS hc hs))
  · cases ho
theorem zs_icmp_ge {n : Int} (X : zX p s m args meth c M Y n0) (hd : decode M.2.1 pc = .ok (.if_icmp .ge n, 3)) (hv : (pc : Int) + n = (w.1.2.1 : Int)) (ho : zs1 Y.2.2.2.2.2 d M (.if_icmp .ge n, w) pc L S h = some o) (k : zCt p l e R s m args below meth c Q Y M d n0 s0 o) : zJ p l e R s m args below meth c Q Y M n0 s0 pc L S h := by
  simp only [zs1, zn] at ho
  split at ho
  · split at ho
    · rename_i hq
      cases ho
      intro H locs cells slots ls hl hG hS hc hs
      exact lv_icmp_ge X.1 X.2.1 hd hv (fun q => absurd hq (Int32.not_lt.mpr q)) (fun _ => (k.1 H locs cells slots ls hl hG hS hc hs))
    · rename_i hq
      cases ho
      intro H locs cells slots ls hl hG hS hc hs
      exact lv_icmp_ge X.1 X.2.1 hd hv (fun _ => (k.1 H locs cells slots ls hl hG hS hc hs)) (fun q => absurd (Int32.not_lt.mp hq) q)
  · cases ho
theorem zs_icmp_gt {n : Int} (X : zX p s m args meth c M Y n0) (hd : decode M.2.1 pc = .ok (.if_icmp .gt n, 3)) (hv : (pc : Int) + n = (w.1.2.1 : Int)) (ho : zs1 Y.2.2.2.2.2 d M (.if_icmp .gt n, w) pc L S h = some o) (k : zCt p l e R s m args below meth c Q Y M d n0 s0 o) : zJ p l e R s m args below meth c Q Y M n0 s0 pc L S h := by
  simp only [zs1, zn] at ho
  split at ho
  · split at ho
    · rename_i hq
      cases ho
      intro H locs cells slots ls hl hG hS hc hs
      exact lv_icmp_gt X.1 X.2.1 hd hv (fun _ => (k.1 H locs cells slots ls hl hG hS hc hs)) (fun q => absurd hq q)
    · rename_i hq
      cases ho
      intro H locs cells slots ls hl hG hS hc hs
      exact lv_icmp_gt X.1 X.2.1 hd hv (fun q => absurd q hq) (fun _ => (k.1 H locs cells slots ls hl hG hS hc hs))
  · cases ho
theorem zs_icmp_le {n : Int} (X : zX p s m args meth c M Y n0) (hd : decode M.2.1 pc = .ok (.if_icmp .le n, 3)) (hv : (pc : Int) + n = (w.1.2.1 : Int)) (ho : zs1 Y.2.2.2.2.2 d M (.if_icmp .le n, w) pc L S h = some o) (k : zCt p l e R s m args below meth c Q Y M d n0 s0 o) : zJ p l e R s m args below meth c Q Y M n0 s0 pc L S h := by
  simp only [zs1, zn] at ho
  split at ho
  · split at ho
    · rename_i hq
      cases ho
      intro H locs cells slots ls hl hG hS hc hs
      exact lv_icmp_le X.1 X.2.1 hd hv (fun q => absurd hq (Int32.not_lt.mpr q)) (fun _ => (k.1 H locs cells slots ls hl hG hS hc hs))
    · rename_i hq
      cases ho
      intro H locs cells slots ls hl hG hS hc hs
      exact lv_icmp_le X.1 X.2.1 hd hv (fun _ => (k.1 H locs cells slots ls hl hG hS hc hs)) (fun q => absurd (Int32.not_lt.mp hq) q)
  · cases ho
end ZS1
