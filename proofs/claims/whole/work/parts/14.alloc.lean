section ZS3
variable {p : Program} {l : Launch} {e : Env} {R : Room} {s : State} {m : MethodId} {args : Array Value} {below : List Frame} {meth : Method} {c : Code} {Q : State → Prop} {Y : zY} {M : zM} {d n0 s0 pc : Nat} {L : zL} {S : List Value} {h : zH} {o : zO} {w : (Nat × Nat × Nat × Nat) × (Int32 × Int64) × List Nat}
theorem zfs_V {ci : Nat} (ha : ci < 10) : ∀ j, j < zNf ci → defaultValue (zTy ci j) = vp_V ((zfs ci).map (yv Y)) j := by
  intro j hj
  unfold vp_V zfs
  rw [List.map_map, List.getD_eq_getElem?_getD, List.getElem?_map, List.getElem?_range hj]
  show defaultValue (zTy ci j) = yv Y (defaultValue (zTy ci j))
  cases zTy ci j <;> rfl
theorem zs_new {i : Nat} (X : zX p s m args meth c M Y n0) (hd : decode M.2.1 pc = .ok (.new i, 3)) (hlk : Cond.classLink M.1.cls i (zR w.1.2.1) ∈ zU) (ha : w.1.2.1 < 10) (ho : zs1 Y.2.2.2.2.2 d M (.new i, w) pc L S h = some o) (k : zCt p l e R s m args below meth c Q Y M d n0 s0 o) : zJ p l e R s m args below meth c Q Y M n0 s0 pc L S h := by
  simp only [zs1, zn] at ho
  split at ho
  · cases ho
  · rename_i hlen
    cases ho
    intro H locs cells slots ls hl hG hS hc hs
    obtain ⟨kJ, k1, k2⟩ := k
    rw [List.length_append] at k1
    rw [zsz_app] at k2
    have e2 : zsz [(.inr (w.1.2.1, zfs w.1.2.1) : zC)] = zNf w.1.2.1 := by show zNf w.1.2.1 + 0 = _; rfl
    rw [e2] at k2
    have e1 : [(.inr (w.1.2.1, zfs w.1.2.1) : zC)].length = 1 := rfl
    rw [e1] at k1
    have hKn := X.2.2.2.2.2.2.1.1.1 w.1.2.1 _ (vw_at ha)
    refine W.newcK X.1 X.2.1 X.2.2.2.1 (X.2.2.2.2.1 _ hlk) (X.2.2.2.2.1 _ (z_inst ha)) (X.2.2.2.2.1 _ (z_ini ha)) rfl hd (by omega) (by omega) hKn.2.1 hG.1 fun H1 kC hkC e1 z1 o1 => ?_
    rw [← hG.1] at z1 o1
    have hadr : ya Y h.length = Y.2.2.1 + h.length := ya_lt (by omega)
    have hG1 : yG Y H1 (h ++ [.inr (w.1.2.1, zfs w.1.2.1)]) := by
      refine zpush hG (by omega) z1 o1 ⟨_, vw_at ha, ?_⟩
      rw [hadr]
      exact (u_born (zTy w.1.2.1) X.2.2.2.2.1 (z_in ha) hKn hkC e1 (z_ty ha)).to (zfs_V ha)
    have := kJ H1 locs (cells + 1) (slots + zNf w.1.2.1) ls hl hG1 (zpushS hS (by omega) o1) (by rw [List.length_append]; show n0 + (cells + 1) = h.length + 1; omega) (by rw [zsz_app, e2]; omega)
    rw [← hadr]
    exact this
theorem zs_newarray {t : ArrayType} (X : zX p s m args meth c M Y n0) (hd : decode M.2.1 pc = .ok (.newarray t, 2)) (ht : (t = .int ∧ w.1.2.1 = 0) ∨ (t = .boolean ∧ w.1.2.1 = 1) ∨ (t = .long ∧ w.1.2.1 = 2)) (ho : zs1 Y.2.2.2.2.2 d M (.newarray t, w) pc L S h = some o) (k : zCt p l e R s m args below meth c Q Y M d n0 s0 o) : zJ p l e R s m args below meth c Q Y M n0 s0 pc L S h := by
  simp only [zs1, zn] at ho
  split at ho
  · rename_i n S'
    split at ho
    · cases ho
    · rename_i hn
      cases ho
      intro H locs cells slots ls hl hG hS hc hs
      obtain ⟨kJ, k1, k2⟩ := k
      have hn0 : ¬ n < 0 := fun q => hn (Or.inl q)
      have hn1 : ¬ 10000 < n.toNatClampNeg := fun q => hn (Or.inr (Or.inl q))
      have hlen : ¬ 1000 ≤ h.length := fun q => hn (Or.inr (Or.inr q))
      have e2 : zsz [zz w.1.2.1 n.toNatClampNeg] = n.toNatClampNeg := by
        rcases ht with ⟨-, q⟩ | ⟨-, q⟩ | ⟨-, q⟩ <;> rw [q] <;> rfl
      rw [List.length_append] at k1
      rw [zsz_app, e2] at k2
      have e1 : [zz w.1.2.1 n.toNatClampNeg].length = 1 := rfl
      rw [e1] at k1
      have hac : Cond.arrayClass (newarray.typeOf t) ∈ zU := by
        rcases ht with ⟨rfl, -⟩ | ⟨rfl, -⟩ | ⟨rfl, -⟩
        · exact zac_int
        · exact zac_boolean
        · exact zac_long
      have hcb : componentBytes (newarray.typeOf t) ≤ 8 := by
        rcases ht with ⟨rfl, -⟩ | ⟨rfl, -⟩ | ⟨rfl, -⟩ <;> decide
      have hmul : n.toNatClampNeg * componentBytes (newarray.typeOf t) ≤ 10000 * 8 := Nat.mul_le_mul (by omega) hcb
      refine va_newaK (N := n.toNatClampNeg) (h := Y.2.2.1 + h.length) X.1 X.2.1 (X.2.2.2.2.1 _ hac) rfl hd rfl hn0 rfl (by omega) (by omega) (by omega) hG.1 fun H1 cA e1 z1 o1 hAr hNm => ?_
      rw [← hG.1] at z1 o1
      have hadr : ya Y h.length = Y.2.2.1 + h.length := ya_lt (by omega)
      have hcA : cA = Y.2.1 w.1.2.1 := by
        rcases ht with ⟨rfl, q⟩ | ⟨rfl, q⟩ | ⟨rfl, q⟩
        · rw [q]; exact Option.some.inj (hNm.symm.trans (X.2.2.2.2.2.2.1.1.2 0 _ rfl).2)
        · rw [q]; exact Option.some.inj (hNm.symm.trans (X.2.2.2.2.2.2.1.1.2 1 _ rfl).2)
        · rw [q]; exact Option.some.inj (hNm.symm.trans (X.2.2.2.2.2.2.1.1.2 2 _ rfl).2)
      have hG1 : yG Y H1 (h ++ [zz w.1.2.1 n.toNatClampNeg]) := by
        refine zpush hG (by omega) z1 o1 ?_
        rw [hadr]
        rw [hcA] at e1
        rcases ht with ⟨rfl, q⟩ | ⟨rfl, q⟩ | ⟨rfl, q⟩ <;> rw [q] at e1 ⊢ <;> exact e1
      have := kJ H1 locs (cells + 1) (slots + n.toNatClampNeg) ls hl hG1 (zpushS hS (by omega) o1) (by rw [List.length_append]; show n0 + (cells + 1) = h.length + 1; omega) (by rw [zsz_app, e2]; omega)
      rw [← hadr]
      exact this
  · cases ho
theorem zs_anewarray {i : Nat} (X : zX p s m args meth c M Y n0) (hd : decode M.2.1 pc = .ok (.anewarray i, 3)) (hlk : Cond.classLink M.1.cls i RX7 ∈ zU) (ho : zs1 Y.2.2.2.2.2 d M (.anewarray i, w) pc L S h = some o) (k : zCt p l e R s m args below meth c Q Y M d n0 s0 o) : zJ p l e R s m args below meth c Q Y M n0 s0 pc L S h := by
  simp only [zs1, zn] at ho
  split at ho
  · rename_i n S'
    split at ho
    · cases ho
    · rename_i hn
      cases ho
      intro H locs cells slots ls hl hG hS hc hs
      obtain ⟨kJ, k1, k2⟩ := k
      have hn0 : ¬ n < 0 := fun q => hn (Or.inl q)
      have hn1 : ¬ 10000 < n.toNatClampNeg := fun q => hn (Or.inr (Or.inl q))
      have hlen : ¬ 1000 ≤ h.length := fun q => hn (Or.inr (Or.inr q))
      have e2 : zsz [zrow n.toNatClampNeg (fun _ => none) 3] = n.toNatClampNeg := by show n.toNatClampNeg + 0 = _; rfl
      rw [List.length_append] at k1
      rw [zsz_app, e2] at k2
      have e1 : [zrow n.toNatClampNeg (fun _ => none) 3].length = 1 := rfl
      rw [e1] at k1
      refine W.anew X.1 X.2.1 X.2.2.2.1 (X.2.2.2.2.1 _ hlk) (va_AO.use X.2.2.2.2.2.2.1.2.2.1) rfl hd rfl hn0 (by omega) (by omega) (by omega) fun cA kA comp f1 f2 f3 f4 => ?_
      generalize hH1 : H.push ({ cls := cA, slots := Array.replicate n.toNatClampNeg .null, vm := .none } : Cell) = H1
      have z1 : H1.size = H.size + 1 := by rw [← hH1, Array.size_push]
      have g1 : H1[H.size]? = some (arrV cA n.toNatClampNeg (fun _ => .null)) := by rw [← hH1, Array.getElem?_push_size, ← arrV_new]
      have o1 : ∀ q : Nat, q < H.size → H1[q]? = H[q]? := fun q hq => by rw [← hH1, Array.getElem?_push, if_neg (Nat.ne_of_lt hq)]
      have hadr : ya Y h.length = Y.2.2.1 + h.length := ya_lt (by omega)
      have hcA : cA = Y.2.1 3 := by
        obtain ⟨kA', comp', q1, q2, q3, q4⟩ := (X.2.2.2.2.2.2.1.1.2 3 _ rfl).2
        exact Option.some.inj (f1.symm.trans q4)
      have hG1 : yG Y H1 (h ++ [zrow n.toNatClampNeg (fun _ => none) 3]) := by
        refine zpush hG (by omega) z1 o1 ?_
        rw [hadr, ← hG.1]
        show H1[H.size]? = some (vp_cell (Y.2.1 3) _)
        rw [g1, hcA]
        rfl
      have := kJ H1 locs (cells + 1) (slots + n.toNatClampNeg) ls hl hG1 (zpushS hS (by omega) o1) (by rw [List.length_append]; show n0 + (cells + 1) = h.length + 1; omega) (by rw [zsz_app, e2]; omega)
      rw [hG.1, ← hadr]
      exact this
  · cases ho
theorem zpushes {H H1 : Heap} {h g : zH} (hG : yG Y H h) (hlen : h.length + g.length ≤ 1000) (z1 : H1.size = H.size + g.length) (o1 : ∀ q : Nat, q < H.size → H1[q]? = H[q]?) (he : ∀ (j : Nat) (cc : zC), g[j]? = some cc → va_at Y.1 vwCl (Y.2.2.1 + (h.length + j), yc Y cc) H1) : yG Y H1 (h ++ g) := by
  refine ⟨?_, ?_, ?_⟩
  · rw [z1, hG.1, List.length_append]; omega
  · rw [List.length_append]; exact hlen
  · intro k q hk
    obtain ⟨cc, h1, rfl⟩ := yw_inv hk
    by_cases hkl : k < h.length
    · rw [List.getElem?_append_left hkl] at h1
      have h2 := hG.2.2 k _ (yw_get h1)
      exact h2.kept (o1 _ h2.lt)
    · rw [List.getElem?_append_right (by omega)] at h1
      have h3 := he _ _ h1
      have h4 := get_lt h1
      rw [ya_lt (by omega)]
      rw [show h.length + (k - h.length) = k by omega] at h3
      exact h3
theorem zouter (cA : ClassId) (N h0 : Nat) : ∀ i : Nat, Jvm.Free.Multi.outerC cA N h0 i = arrV cA N (fun j => va_rf (if j < i then some (h0 + 1 + j) else none))
  | 0 => by
    show ({ cls := cA, slots := Array.replicate N .null, vm := .none } : Cell) = _
    rw [arrV_new]
    refine congrArg (arrV cA N) (funext fun j => ?_)
    simp [va_rf]
  | i + 1 => by
    show (Jvm.Free.Multi.outerC cA N h0 i).setSlot i (.ref (h0 + 1 + i)) = _
    rw [zouter cA N h0 i, arrV_store]
    refine congrArg (arrV cA N) (funext fun j => ?_)
    by_cases e : j = i
    · subst e
      simp [updV, va_rf]
    · by_cases h : j < i
      · simp [updV, e, h, Nat.lt_succ_of_lt h]
      · simp [updV, e, h, show ¬ j < i + 1 by omega]
theorem zs_multianewarray {i kk : Nat} (X : zX p s m args meth c M Y n0) (hd : decode M.2.1 pc = .ok (.multianewarray i kk, 4)) (hk2 : kk = 2) (hlk : Cond.classLink M.1.cls i "[[I" ∈ zU) (ho : zs1 Y.2.2.2.2.2 d M (.multianewarray i kk, w) pc L S h = some o) (k : zCt p l e R s m args below meth c Q Y M d n0 s0 o) : zJ p l e R s m args below meth c Q Y M n0 s0 pc L S h := by
  subst hk2
  simp only [zs1, zn] at ho
  split at ho
  · rename_i k' n S'
    split at ho
    · cases ho
    · rename_i hn
      cases ho
      intro H locs cells slots ls hl hG hS hc hs
      obtain ⟨kJ, k1, k2⟩ := k
      have hn0 : ¬ n < 0 := fun q => hn (Or.inl q)
      have hk0 : ¬ k' < 0 := fun q => hn (Or.inr (Or.inl q))
      have hn1 : ¬ 100 < n.toNatClampNeg := fun q => hn (Or.inr (Or.inr (Or.inl q)))
      have hk1 : ¬ 100 < k'.toNatClampNeg := fun q => hn (Or.inr (Or.inr (Or.inr (Or.inl q))))
      have hlen : ¬ 800 ≤ h.length := fun q => hn (Or.inr (Or.inr (Or.inr (Or.inr q))))
      generalize hN : n.toNatClampNeg = N at *
      generalize hK : k'.toNatClampNeg = K at *
      have e2 : zsz (zrow N (fun i => if i < N then some (h.length + 1 + i) else none) 4 :: List.replicate N (zz 0 K)) = N + N * K := by
        unfold zsz
        rw [List.map_cons, List.sum_cons, List.map_replicate]
        show N + (List.replicate N K).sum = _
        rw [List.sum_replicate_nat]
      have e1 : (zrow N (fun i => if i < N then some (h.length + 1 + i) else none) 4 :: List.replicate N (zz 0 K)).length = N + 1 := by
        rw [List.length_cons, List.length_replicate]
      rw [List.length_append, e1] at k1
      rw [zsz_app, e2] at k2
      intro T hT XX
      obtain ⟨vm₁, cA, comp, -, fA, fC, hO, -, X', step⟩ := XX.multianewarray2F (ty := .int) X.1 X.2.2.2.1 (X.2.2.2.2.1 _ hlk) X.2.2.2.2.2.2.1.2.2.2.1 (X.2.2.2.2.1 _ zac_int) (g := F0 m pc ls ((Value.int k' :: Value.int n :: S').map (yv Y))) rfl (by rw [X.2.1]; exact hd) (n := n) (k := k') (rest := S'.map (yv Y)) rfl hn0 hk0 (by rw [hN]; omega) (by rw [hK]; show K * 4 ≤ _; omega) (by rw [hK]; omega) rfl rfl (by rw [hN]; omega) (by rw [hN, hK]; omega)
      rw [hN, hK] at X' step
      generalize hF : Jvm.Free.Multi.fill (T.setVm vm₁) cA comp N K (defaultValue .int) N = F at X' step
      have hTh : (T.setVm vm₁).heap = H := hT
      obtain ⟨f1, f2, -, -⟩ := Jvm.Free.Multi.fill_facts (T.setVm vm₁) cA comp N K (defaultValue .int) N
      rw [hF, hTh] at f1 f2
      have hold : ∀ x : Nat, x < H.size → F.heap[x]? = H[x]? := fun x hx => by
        have := Jvm.Free.Multi.fill_old (T.setVm vm₁) cA comp N K (defaultValue .int) (a := x) (by rw [hTh]; exact hx) N
        rw [hF, hTh] at this
        exact this
      have hrow : ∀ j : Nat, j < N → F.heap[H.size + 1 + j]? = some (Jvm.Free.Multi.innerC comp K (defaultValue .int)) := fun j hj => by
        have := Jvm.Free.Multi.fill_inner (T.setVm vm₁) cA comp N K (defaultValue .int) N j hj
        rw [hF, hTh] at this
        exact this
      rw [zouter] at f2
      have hcA : cA = Y.2.1 4 := Option.some.inj (fA.symm.trans (X.2.2.2.2.2.2.1.1.2 4 _ rfl).2)
      have hco : comp = Y.2.1 0 := Option.some.inj (fC.symm.trans (X.2.2.2.2.2.2.1.1.2 0 _ rfl).2)
      subst hcA
      subst hco
      have hadr : ya Y h.length = Y.2.2.1 + h.length := ya_lt (by omega)
      have hG1 : yG Y F.heap (h ++ (zrow N (fun i => if i < N then some (h.length + 1 + i) else none) 4 :: List.replicate N (zz 0 K))) := by
        refine zpushes hG (by rw [e1]; omega) (by rw [f1, e1]; omega) hold (fun j cc hj => ?_)
        cases j with
        | zero =>
          cases hj
          show F.heap[Y.2.2.1 + (h.length + 0)]? = some (arrV (Y.2.1 4) N (fun j => va_rf ((if j < N then some (h.length + 1 + j) else none).map (ya Y))))
          rw [show Y.2.2.1 + (h.length + 0) = H.size by rw [hG.1]; rfl, f2]
          refine congrArg some (congrArg (arrV (Y.2.1 4) N) (funext fun j => ?_))
          by_cases hjN : j < N
          · rw [if_pos hjN, if_pos hjN]
            show Value.ref (H.size + 1 + j) = Value.ref (ya Y (h.length + 1 + j))
            rw [ya_lt (by omega), hG.1]
            have e9 : Y.2.2.1 + h.length + 1 + j = Y.2.2.1 + (h.length + 1 + j) := by omega
            exact congrArg Value.ref e9
          · rw [if_neg hjN, if_neg hjN]; rfl
        | succ j =>
          have hj' : (List.replicate N (zz 0 K))[j]? = some cc := hj
          have hjl := get_lt hj'
          rw [List.length_replicate] at hjl
          rw [List.getElem?_replicate, if_pos hjl] at hj'
          cases hj'
          show F.heap[Y.2.2.1 + (h.length + (j + 1))]? = some (arrV (Y.2.1 0) K (fun _ => .int 0))
          rw [show Y.2.2.1 + (h.length + (j + 1)) = H.size + 1 + j by rw [hG.1]; omega, hrow j hjl]
          show some ({ cls := Y.2.1 0, slots := Array.replicate K (Value.int 0), vm := .none } : Cell) = _
          rw [arrV_new]
      have hW := kJ F.heap locs (cells + 1 + N) (slots + N + N * K) ls hl hG1 (zpushS hS (by rw [f1]; omega) hold) (by rw [List.length_append, e1]; omega) (by rw [zsz_app, e2]; omega)
      obtain ⟨t, a1, b1⟩ := hW F rfl X'
      refine ⟨t, step t ?_, b1⟩
      rw [hT, hG.1, ← hadr]
      exact a1
  · cases ho
theorem zsw_spec (x : Int32) (dflt : Nat) : ∀ (T : List Nat) (w : Int32), 0 ≤ w.toInt → w.toInt + T.length < 2000 → (x.toInt < w.toInt ∨ w.toInt + T.length ≤ x.toInt → zsw x dflt w T = dflt) ∧ (∀ (t : Nat) (i : Nat), T[i]? = some t → x.toInt = w.toInt + i → zsw x dflt w T = t)
  | [], w, h0, h1 => ⟨fun _ => rfl, fun t i ht => by cases ht⟩
  | a :: T, w, h0, h1 => by
    have hw : (w + 1).toInt = w.toInt + 1 := by
      have h2 : w.toInt < 2000 := by
        have : (0 : Int) ≤ ((a :: T).length : Int) := Int.natCast_nonneg _
        omega
      rw [Int32.toInt_add]
      show (w.toInt + 1).bmod (2 ^ 32) = _
      rw [Int.bmod_eq_of_le (by omega) (by omega)]
    have hlen : ((a :: T).length : Int) = T.length + 1 := by simp
    rw [hlen] at h1
    obtain ⟨i1, i2⟩ := zsw_spec x dflt T (w + 1) (by omega) (by omega)
    rw [hw] at i1 i2
    refine ⟨fun hx => ?_, fun t i ht hx => ?_⟩
    · rw [hlen] at hx
      unfold zsw
      rw [if_neg (fun q => by subst q; omega)]
      exact i1 (by omega)
    · unfold zsw
      cases i with
      | zero =>
        cases ht
        rw [if_pos (Int32.toInt_inj.mp (by rw [hx]; simp))]
      | succ i =>
        rw [if_neg (fun q => by subst q; omega)]
        exact i2 t i ht (by omega)
theorem zs_tableswitch {dflt lo hi : Int} {offs : Array Int} {len : Nat} (X : zX p s m args meth c M Y n0) (hd : decode M.2.1 pc = .ok (.tableswitch dflt lo hi offs, len)) (h1 : (pc : Int) + dflt = (w.1.2.1 : Int)) (h2 : w.2.1.1.toInt = lo) (h3 : 0 ≤ lo) (h4 : hi < 1000) (h5 : (w.2.2.length : Int) = hi - lo + 1) (h6 : offs.toList.map (fun x => (pc : Int) + x) = w.2.2.map (fun (x : Nat) => (x : Int))) (ho : zs1 Y.2.2.2.2.2 d M (.tableswitch dflt lo hi offs, w) pc L S h = some o) (k : zCt p l e R s m args below meth c Q Y M d n0 s0 o) : zJ p l e R s m args below meth c Q Y M n0 s0 pc L S h := by
  simp only [zs1, zn] at ho
  split at ho
  · rename_i x S'
    cases ho
    intro H locs cells slots ls hl hG hS hc hs
    obtain ⟨g1, g2⟩ := zsw_spec x w.1.2.1 w.2.2 w.2.1.1 (by omega) (by omega)
    have kk := k.1 H locs cells slots ls hl hG hS hc hs
    by_cases hx : x.toInt < lo ∨ hi < x.toInt
    · rw [g1 (by omega)] at kk
      exact lv_tableOut X.1 X.2.1 hd hx h1 kk
    · have hi1 : (x.toInt - lo).toNat < w.2.2.length := by omega
      have ht : w.2.2[(x.toInt - lo).toNat]? = some (w.2.2[(x.toInt - lo).toNat]'hi1) := List.getElem?_eq_getElem hi1
      rw [g2 _ _ ht (by omega)] at kk
      have hlo : offs.toList.length = w.2.2.length := by
        have := congrArg List.length h6
        rwa [List.length_map, List.length_map] at this
      have hoff : offs[(x.toInt - lo).toNat]? = some (offs.toList[(x.toInt - lo).toNat]'(by omega)) := by
        rw [← Array.getElem?_toList]
        exact List.getElem?_eq_getElem (by omega)
      have h7 : (pc : Int) + offs.toList[(x.toInt - lo).toNat]'(by omega) = ((w.2.2[(x.toInt - lo).toNat]'hi1 : Nat) : Int) := by
        have h8 := congrArg (fun z => z[(x.toInt - lo).toNat]?) h6
        simp only [List.getElem?_map] at h8
        rw [List.getElem?_eq_getElem (by omega : (x.toInt - lo).toNat < offs.toList.length), ht] at h8
        exact Option.some.inj h8
      exact lv_tableIn X.1 X.2.1 hd (fun q => hx (Or.inl q)) (fun q => hx (Or.inr q)) hoff h7 kk
  · cases ho
end ZS3
