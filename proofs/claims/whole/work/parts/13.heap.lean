section ZS2
variable {p : Program} {l : Launch} {e : Env} {R : Room} {s : State} {m : MethodId} {args : Array Value} {below : List Frame} {meth : Method} {c : Code} {Q : State → Prop} {Y : zY} {M : zM} {d n0 s0 pc : Nat} {L : zL} {S : List Value} {h : zH} {o : zO} {w : (Nat × Nat × Nat × Nat) × (Int32 × Int64) × List Nat}
/-- the heap's size follows from what is counted -/
theorem zW_sz {H1 : Heap} {locs1 : List Loc} {cells slots : Nat} {g : JFrame} (X : zX p s m args meth c M Y n0) {h1 : zH} (hP : va_P Y.1 vwCl (yw Y h1) H1) (h0 : 0 < h1.length) (hl : h1.length ≤ 1000) (hc : n0 + cells = h1.length) (kk : yG Y H1 h1 → W p l e R s m args below meth c H1 locs1 cells slots Q g) : W p l e R s m args below meth c H1 locs1 cells slots Q g := by
  intro T hT XX
  have hup := XX.heapSize
  refine kk ⟨?_, hl, hP⟩ T hT XX
  have hget : h1[h1.length - 1]? = some (h1[h1.length - 1]'(by omega)) := List.getElem?_eq_getElem (by omega)
  have hlast := (hP _ _ (yw_get hget)).lt
  have hlast : ya Y (h1.length - 1) < H1.size := hlast
  rw [ya_lt (by omega)] at hlast
  have hs := X.2.2.2.2.2.2.2.2
  rw [hT, hs] at hup
  omega
theorem zpush {H H1 : Heap} {h : zH} {cc : zC} (hG : yG Y H h) (hlen : h.length < 1000) (z1 : H1.size = H.size + 1) (o1 : ∀ q : Nat, q < H.size → H1[q]? = H[q]?) (he : va_at Y.1 vwCl (ya Y h.length, yc Y cc) H1) : yG Y H1 (h ++ [cc]) := by
  refine ⟨?_, ?_, ?_⟩
  · rw [z1, hG.1, List.length_append]; rfl
  · rw [List.length_append]; simp only [List.length_cons, List.length_nil]; omega
  · rw [yw_app]
    refine va_P.app (hG.2.2.kept (fun k q hk => o1 q.1 ((hG.2.2 k q hk).lt))) (fun k q hk => ?_)
    have hz : k < 1 := get_lt hk
    rw [show k = 0 by omega] at hk
    cases hk
    exact he
theorem zpushS {A : Nat → Prop} {H0 H H1 : Heap} {locs : List Loc} (hS : va_S A H0 H locs) (z1 : H.size ≤ H1.size) (o1 : ∀ q : Nat, q < H.size → H1[q]? = H[q]?) : va_S A H0 H1 locs := ⟨Nat.le_trans hS.1 z1, fun x h1 h2 => (o1 x (Nat.lt_of_lt_of_le h1 hS.1)).trans (hS.2.1 x h1 h2), hS.2.2⟩
theorem zs_getfield {i : Nat} (X : zX p s m args meth c M Y n0) (hd : decode M.2.1 pc = .ok (.getfield i, 3)) (hlk : Cond.fieldLink M.1.cls i (zT w.1.2.1 w.1.2.2.1).1 (zT w.1.2.1 w.1.2.2.1).2.1 (zT w.1.2.1 w.1.2.2.1).2.2.1 ∈ zU) (hb : w.1.2.2.1 < zNf w.1.2.1) (ha : w.1.2.1 < 10) (ho : zs1 Y.2.2.2.2.2 d M (.getfield i, w) pc L S h = some o) (k : zCt p l e R s m args below meth c Q Y M d n0 s0 o) : zJ p l e R s m args below meth c Q Y M n0 s0 pc L S h := by
  simp only [zs1, zn] at ho
  split at ho
  · rename_i oo S'
    split at ho
    · rename_i ci fs hcell
      split at ho
      · rename_i hci
        subst hci
        split at ho
        · rename_i v hv
          cases ho
          intro H locs cells slots ls hl hG hS hc hs
          exact va_get (D := Y.1) (ci := w.1.2.1) (v := yv Y v) (C := zR w.1.2.1) (T := zT w.1.2.1) (N := zNf w.1.2.1) X.1 X.2.1 X.2.2.2.2.1 (z_in ha) X.2.2.2.1 X.2.2.2.2.2.2.1.1 hG.2.2 oo (yw_get hcell) (vw_at ha) w.1.2.2.1 hb (X.2.2.2.2.1 _ hlk) (fun _ h9 => h9) (by rw [List.getElem?_map, hv]; rfl) hd (k.1 H locs cells slots ls hl hG hS hc hs)
        · cases ho
      · cases ho
    · cases ho
  · cases ho
theorem zfv_ok {ty : FieldType} {v : Value} (h : zfv ty v = true) : narrow ty (yv Y v) = yv Y v ∧ fits ty (yv Y v) = true := by
  cases ty <;> cases v <;> first | (simp [zfv] at h; done) | exact ⟨rfl, rfl⟩ | skip
  rename_i x
  simp only [zfv, Bool.or_eq_true, beq_iff_eq] at h
  rcases h with h | h <;> subst h
  · exact ⟨(by decide +kernel : narrow .boolean (.int 0) = .int 0), (by decide +kernel : fits .boolean (.int 0) = true)⟩
  · exact ⟨(by decide +kernel : narrow .boolean (.int 1) = .int 1), (by decide +kernel : fits .boolean (.int 1) = true)⟩
theorem zset_P {H1 : Heap} {k : Nat} {cc : zC} (hP : va_P Y.1 vwCl ((yw Y h).set k (ya Y k, yc Y cc)) H1) : va_P Y.1 vwCl (yw Y (h.set k cc)) H1 := by
  rw [yw_set]
  exact hP
theorem zs_putfield {i : Nat} (X : zX p s m args meth c M Y n0) (hd : decode M.2.1 pc = .ok (.putfield i, 3)) (hlk : Cond.fieldLink M.1.cls i (zT w.1.2.1 w.1.2.2.1).1 (zT w.1.2.1 w.1.2.2.1).2.1 (zT w.1.2.1 w.1.2.2.1).2.2.1 ∈ zU) (hb : w.1.2.2.1 < zNf w.1.2.1) (ha : w.1.2.1 < 10) (hf : (zT w.1.2.1 w.1.2.2.1).2.2.2 = false ∨ ((zT w.1.2.1 w.1.2.2.1).2.2.2 = true ∧ M.1.name = "<init>" ∧ (zT w.1.2.1 w.1.2.2.1).1 = M.1.cls)) (ho : zs1 Y.2.2.2.2.2 d M (.putfield i, w) pc L S h = some o) (k : zCt p l e R s m args below meth c Q Y M d n0 s0 o) : zJ p l e R s m args below meth c Q Y M n0 s0 pc L S h := by
  simp only [zs1, zn] at ho
  split at ho
  · rename_i v oo S'
    split at ho
    · rename_i ci fs hcell
      split at ho
      · rename_i hci
        obtain ⟨hci, hlen, hfit⟩ := hci
        subst hci
        cases ho
        intro H locs cells slots ls hl hG hS hc hs
        obtain ⟨f1, f2⟩ := zfv_ok (Y := Y) hfit
        have hlt := get_lt hcell
        have fin : ∀ (H1 : Heap) (locs1 : List Loc), va_P Y.1 vwCl ((yw Y h).set oo (ya Y oo, .inr (w.1.2.1, (fs.map (yv Y)).set w.1.2.2.1 (yv Y v)))) H1 → va_D (yB Y) ((yw Y h).set oo (ya Y oo, .inr (w.1.2.1, (fs.map (yv Y)).set w.1.2.2.1 (yv Y v)))) → va_S (yB Y) s.heap H1 locs1 → W p l e R s m args below meth c H1 locs1 cells slots Q (F0 m (pc + 3) ls (S'.map (yv Y))) := by
          intro H1 locs1 hP1 _ hS1
          have hP2 : va_P Y.1 vwCl (yw Y (h.set oo (.inr (w.1.2.1, fs.set w.1.2.2.1 v)))) H1 := zset_P (by
            show va_P Y.1 vwCl ((yw Y h).set oo (ya Y oo, .inr (w.1.2.1, (fs.set w.1.2.2.1 v).map (yv Y)))) H1
            rw [List.map_set]
            exact hP1)
          refine zW_sz X hP2 (by rw [List.length_set]; omega) (by rw [List.length_set]; exact hG.2.1) (by rw [List.length_set]; exact hc) (fun hG1 => ?_)
          exact k.1 H1 locs1 cells slots ls hl hG1 hS1 (by rw [List.length_set]; exact hc) (by rw [zsz_set (c' := .inr (w.1.2.1, fs.set w.1.2.2.1 v)) hcell rfl]; exact hs)
        rcases hf with hf | ⟨hf, hin, hdecl⟩
        · exact va_put (D := Y.1) (ci := w.1.2.1) (v := yv Y v) (ty := zTy w.1.2.1 w.1.2.2.1) (C := zR w.1.2.1) (T := zT w.1.2.1) (N := zNf w.1.2.1) X.1 X.2.1 X.2.2.2.2.1 (z_in ha) (zTy w.1.2.1) (z_ty ha) (z_nm ha) X.2.2.2.1 X.2.2.2.2.2.2.1.1 hG.2.2 (yw_D hG.2.1) hS oo (yw_get hcell) (vw_at ha) w.1.2.2.1 hb (X.2.2.2.2.1 _ hlk) (fun _ h9 => h9) hf (z_ty ha _ hb) f1 f2 (by rw [List.length_map]; exact hlen) hd fin
        · exact va_putF (D := Y.1) (ci := w.1.2.1) (v := yv Y v) (ty := zTy w.1.2.1 w.1.2.2.1) (C := zR w.1.2.1) (T := zT w.1.2.1) (N := zNf w.1.2.1) X.1 X.2.1 X.2.2.2.2.1 (z_in ha) (zTy w.1.2.1) (z_ty ha) (z_nm ha) X.2.2.2.1 X.2.2.2.2.2.2.1.1 hG.2.2 (yw_D hG.2.1) hS oo (yw_get hcell) (vw_at ha) w.1.2.2.1 hb (X.2.2.2.2.1 _ hlk) (fun _ h9 => h9) hf (X.2.2.2.2.2.1.trans hin) hdecl (z_ty ha _ hb) f1 f2 (by rw [List.length_map]; exact hlen) hd fin
      · cases ho
    · cases ho
  · cases ho
/-- an array: a cell of the heap, or the law's script -/
theorem zar_spec {E : zE} {a : Nat} {cc : zC} (hz : zar E h a = some cc) : h[a]? = some cc ∨ (h[a]? = none ∧ a = 1004 ∧ cc = .inl (0, E.1, .inl E.2)) := by
  unfold zar at hz
  cases hc : h[a]? with
  | some x => rw [hc] at hz; cases hz; exact Or.inl rfl
  | none =>
    rw [hc] at hz
    simp only at hz
    split at hz
    · rename_i ha
      cases hz
      exact Or.inr ⟨rfl, ha, rfl⟩
    · cases hz
theorem ya_1004 : ya Y 1004 = Y.2.2.2.1 4 := rfl
theorem zX.b (X : zX p s m args meth c M Y n0) : Y.2.2.2.1 4 < s.heap.size := by
  have h1 := X.2.2.2.2.2.2.2.1.2.2
  have h2 := X.2.2.2.2.2.2.2.2
  omega
theorem zs_iaload (X : zX p s m args meth c M Y n0) (hd : decode M.2.1 pc = .ok (.iaload, 1)) (ho : zs1 Y.2.2.2.2.2 d M (.iaload, w) pc L S h = some o) (k : zCt p l e R s m args below meth c Q Y M d n0 s0 o) : zJ p l e R s m args below meth c Q Y M n0 s0 pc L S h := by
  simp only [zs1, zn] at ho
  split at ho
  · rename_i i oo S'
    split at ho
    · rename_i n f hz
      split at ho
      · cases ho
      · rename_i hin
        cases ho
        intro H locs cells slots ls hl hG hS hc hs
        rcases zar_spec hz with hcell | ⟨-, rfl, he⟩
        · exact va_iald X.1 X.2.1 X.2.2.2.2.2.2.1.1 hG.2.2 oo 0 (yw_get hcell) rfl hin hd (k.1 H locs cells slots ls hl hG hS hc hs)
        · cases he
          exact va_sld X.1 X.2.1 X.2.2.2.2.2.2.2.1.2.1 X.b (Nat.not_le.mpr X.2.2.2.2.2.2.2.1.2.2) hS hin hd (k.1 H locs cells slots ls hl hG hS hc hs)
    · cases ho
  · cases ho
theorem zs_arraylength (X : zX p s m args meth c M Y n0) (hd : decode M.2.1 pc = .ok (.arraylength, 1)) (ho : zs1 Y.2.2.2.2.2 d M (.arraylength, w) pc L S h = some o) (k : zCt p l e R s m args below meth c Q Y M d n0 s0 o) : zJ p l e R s m args below meth c Q Y M n0 s0 pc L S h := by
  simp only [zs1, zn] at ho
  split at ho
  · rename_i oo S'
    split at ho
    · rename_i t n f hz
      split at ho
      · rename_i ht
        cases ho
        intro H locs cells slots ls hl hG hS hc hs
        rcases zar_spec hz with hcell | ⟨-, rfl, he⟩
        · have hy : (yA Y (n, f)).1 = n := by
            rcases f with f | f | f | f | f <;> rfl
          have hty : ∃ ty, (yt Y)[t]? = some (Y.2.1 t, ty) := by
            match t, ht with
            | 0, _ => exact ⟨_, rfl⟩
            | 1, _ => exact ⟨_, rfl⟩
            | 2, _ => exact ⟨_, rfl⟩
            | 3, _ => exact ⟨_, rfl⟩
            | 4, _ => exact ⟨_, rfl⟩
          obtain ⟨ty, hty⟩ := hty
          exact va_alen X.1 X.2.1 X.2.2.2.2.2.2.1.1 hG.2.2 oo t (yw_get hcell) hty (by rw [hy]) hd (k.1 H locs cells slots ls hl hG hS hc hs)
        · cases he
          exact va_slen X.1 X.2.1 X.2.2.2.2.2.2.2.1.2.1 X.b (Nat.not_le.mpr X.2.2.2.2.2.2.2.1.2.2) hS hd (k.1 H locs cells slots ls hl hG hS hc hs)
      · cases ho
    · cases ho
  · cases ho
theorem zs_baload (X : zX p s m args meth c M Y n0) (hd : decode M.2.1 pc = .ok (.baload, 1)) (ho : zs1 Y.2.2.2.2.2 d M (.baload, w) pc L S h = some o) (k : zCt p l e R s m args below meth c Q Y M d n0 s0 o) : zJ p l e R s m args below meth c Q Y M n0 s0 pc L S h := by
  simp only [zs1, zn] at ho
  split at ho
  · rename_i i oo S'
    split at ho
    · rename_i n f hcell
      split at ho
      · cases ho
      · rename_i hin
        cases ho
        intro H locs cells slots ls hl hG hS hc hs
        exact va_zald X.1 X.2.1 X.2.2.2.2.2.2.1.1 hG.2.2 oo 1 (yw_get hcell) rfl hin hd (k.1 H locs cells slots ls hl hG hS hc hs)
    · cases ho
  · cases ho
theorem zs_laload (X : zX p s m args meth c M Y n0) (hd : decode M.2.1 pc = .ok (.laload, 1)) (ho : zs1 Y.2.2.2.2.2 d M (.laload, w) pc L S h = some o) (k : zCt p l e R s m args below meth c Q Y M d n0 s0 o) : zJ p l e R s m args below meth c Q Y M n0 s0 pc L S h := by
  simp only [zs1, zn] at ho
  split at ho
  · rename_i i oo S'
    split at ho
    · rename_i n f hcell
      split at ho
      · cases ho
      · rename_i hin
        cases ho
        intro H locs cells slots ls hl hG hS hc hs
        exact va_lald X.1 X.2.1 X.2.2.2.2.2.2.1.1 hG.2.2 oo 2 (yw_get hcell) rfl hin hd (k.1 H locs cells slots ls hl hG hS hc hs)
    · cases ho
  · cases ho
theorem zs_aaload (X : zX p s m args meth c M Y n0) (hd : decode M.2.1 pc = .ok (.aaload, 1)) (ho : zs1 Y.2.2.2.2.2 d M (.aaload, w) pc L S h = some o) (k : zCt p l e R s m args below meth c Q Y M d n0 s0 o) : zJ p l e R s m args below meth c Q Y M n0 s0 pc L S h := by
  simp only [zs1, zn] at ho
  split at ho
  · rename_i i oo S'
    split at ho
    · rename_i t n f hcell
      split at ho
      · cases ho
      · rename_i hin
        split at ho
        · rename_i r hr
          cases ho
          intro H locs cells slots ls hl hG hS hc hs
          have hin1 : ¬ (i < 0 ∨ n ≤ i.toNatClampNeg) := fun q => hin (q.elim Or.inl (fun q => Or.inr (Or.inl q)))
          have hlt : i.toNatClampNeg < n := Nat.not_le.mp fun q => hin1 (Or.inr q)
          have hty : ∃ ty, (yt Y)[t]? = some (Y.2.1 t, ty) ∧ ty.isReference = true := by
            by_cases h3 : t = 3
            · subst h3; exact ⟨_, rfl, rfl⟩
            · by_cases h4 : t = 4
              · subst h4; exact ⟨_, rfl, rfl⟩
              · exact absurd (Or.inr (Or.inr ⟨h3, h4⟩)) hin
          obtain ⟨ty, ht, hrf⟩ := hty
          have hv : va_rf ((fun j => (f j).map (ya Y)) i.toNatClampNeg) = .ref (ya Y r) := by
            show va_rf ((f i.toNatClampNeg).map (ya Y)) = _
            rw [hr]; rfl
          have hc9 : H[ya Y oo]? = some (arrV (Y.2.1 t) n (fun j => va_rf ((f j).map (ya Y)))) := hG.2.2 oo _ (yw_get hcell)
          exact W.aald (v := va_rf ((fun j => (f j).map (ya Y)) i.toNatClampNeg)) (ty := ty) X.1 X.2.1 hc9 ((X.2.2.2.2.2.2.1.1.2 t _ ht).1 n (fun j => va_rf ((f j).map (ya Y)))) hrf (fun q => by cases q) (by rw [arrV_size]; exact hin1) (by rw [arrV_read _ _ hlt]) rfl rfl hd (by
            rw [hv]
            exact k.1 H locs cells slots ls hl hG hS hc hs)
        · cases ho
    · cases ho
  · cases ho
theorem zs_iastore (X : zX p s m args meth c M Y n0) (hd : decode M.2.1 pc = .ok (.iastore, 1)) (ho : zs1 Y.2.2.2.2.2 d M (.iastore, w) pc L S h = some o) (k : zCt p l e R s m args below meth c Q Y M d n0 s0 o) : zJ p l e R s m args below meth c Q Y M n0 s0 pc L S h := by
  simp only [zs1, zn] at ho
  split at ho
  · rename_i x i oo S'
    split at ho
    · rename_i n f hcell
      split at ho
      · cases ho
      · rename_i hin
        cases ho
        intro H locs cells slots ls hl hG hS hc hs
        have hlt := get_lt hcell
        refine va_iast X.1 X.2.1 X.2.2.2.2.2.2.1.1 hG.2.2 (yw_D hG.2.1) hS oo 0 (yw_get hcell) rfl hin hd (fun H1 locs1 hP1 _ hS1 => ?_)
        refine zW_sz X (zset_P (cc := .inl (0, n, .inl (upd f i.toNatClampNeg x))) hP1) (by rw [List.length_set]; omega) (by rw [List.length_set]; exact hG.2.1) (by rw [List.length_set]; exact hc) (fun hG1 => ?_)
        exact k.1 H1 locs1 cells slots ls hl hG1 hS1 (by rw [List.length_set]; exact hc) (by rw [zsz_set (c' := .inl (0, n, .inl (upd f i.toNatClampNeg x))) hcell rfl]; exact hs)
    · cases ho
  · cases ho
theorem zs_bastore (X : zX p s m args meth c M Y n0) (hd : decode M.2.1 pc = .ok (.bastore, 1)) (ho : zs1 Y.2.2.2.2.2 d M (.bastore, w) pc L S h = some o) (k : zCt p l e R s m args below meth c Q Y M d n0 s0 o) : zJ p l e R s m args below meth c Q Y M n0 s0 pc L S h := by
  simp only [zs1, zn] at ho
  split at ho
  · rename_i x i oo S'
    split at ho
    · rename_i n f hcell
      split at ho
      · cases ho
      · rename_i hin
        cases ho
        intro H locs cells slots ls hl hG hS hc hs
        have hlt := get_lt hcell
        refine va_zast X.1 X.2.1 X.2.2.2.2.2.2.1.1 hG.2.2 (yw_D hG.2.1) hS oo 1 (yw_get hcell) rfl hin hd (fun H1 locs1 hP1 _ hS1 => ?_)
        refine zW_sz X (zset_P (cc := .inl (1, n, .inl (upd f i.toNatClampNeg (vp_nar .boolean x)))) hP1) (by rw [List.length_set]; omega) (by rw [List.length_set]; exact hG.2.1) (by rw [List.length_set]; exact hc) (fun hG1 => ?_)
        exact k.1 H1 locs1 cells slots ls hl hG1 hS1 (by rw [List.length_set]; exact hc) (by rw [zsz_set (c' := .inl (1, n, .inl (upd f i.toNatClampNeg (vp_nar .boolean x)))) hcell rfl]; exact hs)
    · cases ho
  · cases ho
theorem zs_lastore (X : zX p s m args meth c M Y n0) (hd : decode M.2.1 pc = .ok (.lastore, 1)) (ho : zs1 Y.2.2.2.2.2 d M (.lastore, w) pc L S h = some o) (k : zCt p l e R s m args below meth c Q Y M d n0 s0 o) : zJ p l e R s m args below meth c Q Y M n0 s0 pc L S h := by
  simp only [zs1, zn] at ho
  split at ho
  · rename_i x i oo S'
    split at ho
    · rename_i n f hcell
      split at ho
      · cases ho
      · rename_i hin
        cases ho
        intro H locs cells slots ls hl hG hS hc hs
        have hlt := get_lt hcell
        refine va_last X.1 X.2.1 X.2.2.2.2.2.2.1.1 hG.2.2 (yw_D hG.2.1) hS oo 2 (yw_get hcell) rfl hin hd (fun H1 locs1 hP1 _ hS1 => ?_)
        refine zW_sz X (zset_P (cc := .inl (2, n, .inr (.inl (vp_updL f i.toNatClampNeg x)))) hP1) (by rw [List.length_set]; omega) (by rw [List.length_set]; exact hG.2.1) (by rw [List.length_set]; exact hc) (fun hG1 => ?_)
        exact k.1 H1 locs1 cells slots ls hl hG1 hS1 (by rw [List.length_set]; exact hc) (by rw [zsz_set (c' := .inl (2, n, .inr (.inl (vp_updL f i.toNatClampNeg x)))) hcell rfl]; exact hs)
    · cases ho
  · cases ho
theorem zs_aastore (X : zX p s m args meth c M Y n0) (hd : decode M.2.1 pc = .ok (.aastore, 1)) (ho : zs1 Y.2.2.2.2.2 d M (.aastore, w) pc L S h = some o) (k : zCt p l e R s m args below meth c Q Y M d n0 s0 o) : zJ p l e R s m args below meth c Q Y M n0 s0 pc L S h := by
  simp only [zs1, zn] at ho
  split at ho
  · rename_i v i oo S'
    split at ho
    · rename_i n f vs hcell hval
      split at ho
      · cases ho
      · rename_i hin
        cases ho
        intro H locs cells slots ls hl hG hS hc hs
        have hlt := get_lt hcell
        refine va_astq X.1 X.2.1 X.2.2.2.2.2.2.1.1 hG.2.2 (yw_D hG.2.1) hS oo 3 v 7 (r := (RX7, TX7, 11)) (yw_get hcell) rfl (yw_get hval) rfl hin hd (fun H1 locs1 hP1 _ hS1 => ?_)
        have hP2 : va_P Y.1 vwCl (yw Y (h.set oo (zrow n (va_up f i.toNatClampNeg (some v)) 3))) H1 := zset_P (by
          have hf : (fun j => (va_up f i.toNatClampNeg (some v) j).map (ya Y)) = va_up (fun j => (f j).map (ya Y)) i.toNatClampNeg (some (ya Y v)) := by
            funext j
            unfold va_up
            split <;> rfl
          show va_P Y.1 vwCl ((yw Y h).set oo (ya Y oo, .inl (Y.2.1 3, n, .inr (.inr (.inr (.inr (fun j => (va_up f i.toNatClampNeg (some v) j).map (ya Y)))))))) H1
          rw [hf]
          exact hP1)
        refine zW_sz X hP2 (by rw [List.length_set]; omega) (by rw [List.length_set]; exact hG.2.1) (by rw [List.length_set]; exact hc) (fun hG1 => ?_)
        exact k.1 H1 locs1 cells slots ls hl hG1 hS1 (by rw [List.length_set]; exact hc) (by rw [zsz_set (c' := zrow n (va_up f i.toNatClampNeg (some v)) 3) hcell rfl]; exact hs)
    · cases ho
  · cases ho
end ZS2
