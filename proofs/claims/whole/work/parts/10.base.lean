/-! SOUNDNESS, the base: the small machine's heap and locals in the Java machine's -/
/-- the classes' numbers; the array classes; where the new cells begin; where the four words and the script lie; where the words' bytes lie; the script -/
abbrev zY : Type := va_G × (Nat → ClassId) × Nat × (Nat → Nat) × (Nat → Nat) × zE
def ya (Y : zY) (k : Nat) : Nat := if k < 1000 then Y.2.2.1 + k else Y.2.2.2.1 (k - 1000)
def yv (Y : zY) (v : Value) : Value := match v with
  | .ref k => .ref (ya Y k)
  | v => v
def yA (Y : zY) (a : vp_A) : vp_A := match a with
  | (n, .inr (.inr (.inr (.inr f)))) => (n, .inr (.inr (.inr (.inr (fun j => (f j).map (ya Y))))))
  | a => a
def yc (Y : zY) (c : zC) : va_E := match c with
  | .inl (t, a) => .inl (Y.2.1 t, yA Y a)
  | .inr (ci, fs) => .inr (ci, fs.map (yv Y))
def yw (Y : zY) (h : zH) : va_W := h.mapIdx (fun k c => (ya Y k, yc Y c))
theorem yw_get {Y : zY} {h : zH} {k : Nat} {c : zC} (hk : h[k]? = some c) : (yw Y h)[k]? = some (ya Y k, yc Y c) := by
  unfold yw
  rw [List.getElem?_mapIdx, hk]
  rfl
theorem yw_inv {Y : zY} {h : zH} {k : Nat} {q : Nat × va_E} (hk : (yw Y h)[k]? = some q) : ∃ c, h[k]? = some c ∧ q = (ya Y k, yc Y c) := by
  unfold yw at hk
  rw [List.getElem?_mapIdx] at hk
  cases hc : h[k]? with
  | none => rw [hc] at hk; cases hk
  | some c => rw [hc] at hk; cases hk; exact ⟨c, rfl, rfl⟩
theorem yw_set {Y : zY} {h : zH} {k : Nat} {c : zC} : yw Y (h.set k c) = (yw Y h).set k (ya Y k, yc Y c) := by
  apply List.ext_getElem?
  intro i
  unfold yw
  rw [List.getElem?_mapIdx, List.getElem?_set, List.getElem?_set, List.getElem?_mapIdx, List.length_mapIdx]
  by_cases hi : k = i
  · subst hi
    by_cases hl : k < h.length
    · simp [hl]
    · simp [hl]
  · simp [hi]
theorem yw_app {Y : zY} {h : zH} {c : zC} : yw Y (h ++ [c]) = yw Y h ++ [(ya Y h.length, yc Y c)] := by
  unfold yw
  rw [List.mapIdx_concat]
theorem ya_lt {Y : zY} {k : Nat} (h : k < 1000) : ya Y k = Y.2.2.1 + k := if_pos h
theorem get_lt {α : Type} {h : List α} {k : Nat} {c : α} (hk : h[k]? = some c) : k < h.length := (List.getElem?_eq_some_iff.mp hk).1
theorem yw_D {Y : zY} {h : zH} (hl : h.length ≤ 1000) : va_D (fun q => Y.2.2.1 ≤ q) (yw Y h) := by
  refine ⟨fun i j p q hi hj he => ?_, fun k q hk => ?_⟩
  · obtain ⟨c1, h1, rfl⟩ := yw_inv hi
    obtain ⟨c2, h2, rfl⟩ := yw_inv hj
    have g1 := get_lt h1
    have g2 := get_lt h2
    have e : ya Y i = ya Y j := he
    rw [ya_lt (by omega), ya_lt (by omega)] at e
    omega
  · obtain ⟨c1, h1, rfl⟩ := yw_inv hk
    have g1 := get_lt h1
    show Y.2.2.1 ≤ ya Y k
    rw [ya_lt (by omega)]
    omega
theorem yv_cat (Y : zY) (v : Value) : (yv Y v).category = v.category := by cases v <;> rfl
theorem yv_sum (Y : zY) (S : List Value) : ((S.map (yv Y)).map fun v => v.category).sum = (S.map fun v => v.category).sum := by
  rw [List.map_map]
  congr 1
  apply List.map_congr_left
  intro v _
  exact yv_cat Y v
/-! locals -/
def ylr (Y : zY) (ls : Array Slot) (nL : Nat) (L : zL) : Prop := ls.size = nL ∧ lv_wf ls ∧ L.length = nL ∧ ∀ (i : Nat) (v : Value), L[i]? = some (some v) → ls[i]? = some (.val (yv Y v))
def yas (Y : zY) (L : zL) : List (Nat × Value) := (List.range L.length).filterMap (fun i => match L[i]? with
  | some (some v) => some (i, yv Y v)
  | _ => none)
theorem yas_mem {Y : zY} {L : zL} {q : Nat × Value} : q ∈ yas Y L ↔ ∃ v, L[q.1]? = some (some v) ∧ q.2 = yv Y v := by
  unfold yas
  rw [List.mem_filterMap]
  constructor
  · rintro ⟨i, hi, he⟩
    cases hc : L[i]? with
    | none => rw [hc] at he; cases he
    | some o =>
      cases o with
      | none => rw [hc] at he; cases he
      | some v =>
        rw [hc] at he
        cases he
        exact ⟨v, hc, rfl⟩
  · rintro ⟨v, h1, h2⟩
    refine ⟨q.1, List.mem_range.mpr (get_lt h1), ?_⟩
    rw [h1]
    show some (q.1, yv Y v) = some q
    rw [← h2]
theorem ylr.has {Y : zY} {ls : Array Slot} {nL : Nat} {L : zL} (h : ylr Y ls nL L) : lv_has ls nL (yas Y L) := by
  refine ⟨h.1, h.2.1, fun q hq => ?_⟩
  obtain ⟨v, h1, h2⟩ := yas_mem.mp hq
  rw [h2]
  exact h.2.2.2 _ _ h1
theorem ylr.of {Y : zY} {ls : Array Slot} {nL : Nat} {L : zL} {l : List (Nat × Value)} (h : lv_has ls nL l) (hl : L.length = nL) (hm : ∀ (i : Nat) (v : Value), L[i]? = some (some v) → (i, yv Y v) ∈ l) : ylr Y ls nL L := ⟨h.1, h.2.1, hl, fun i v hv => h.2.2 (i, yv Y v) (hm i v hv)⟩
theorem ylr.at {Y : zY} {ls : Array Slot} {nL : Nat} {L : zL} (h : ylr Y ls nL L) {i : Nat} {v : Value} (hv : zg L i = some v) : ls[i]? = some (.val (yv Y v)) := by
  unfold zg at hv
  cases hc : L[i]? with
  | none => rw [hc] at hv; cases hv
  | some o =>
    cases o with
    | none => rw [hc] at hv; cases hv
    | some w =>
      rw [hc] at hv
      cases hv
      exact h.2.2.2 _ _ hc
theorem zcl_len : ∀ (i : Nat) (L : zL), (zcl i L).length = L.length
  | 0, [] => rfl
  | i + 1, [] => by cases i <;> rfl
  | 0, _ :: _ => rfl
  | 1, _ :: _ => rfl
  | i + 2, x :: L => by
    show (zcl (i + 1) L).length + 1 = L.length + 1
    rw [zcl_len (i + 1) L]
theorem zcl_get : ∀ (i : Nat) (L : zL) (j : Nat), (zcl i L)[j]? = if j + 1 = i then (L[j]?).map zk else L[j]?
  | 0, [], j => by simp [zcl]
  | 1, [], j => by simp [zcl]
  | i + 2, [], j => by simp [zcl]
  | 0, x :: L, j => by simp [zcl]
  | 1, x :: L, 0 => by simp [zcl]
  | 1, x :: L, j + 1 => by simp [zcl]
  | i + 2, x :: L, 0 => by simp [zcl]
  | i + 2, x :: L, j + 1 => by
    show (zcl (i + 1) L)[j]? = _
    rw [zcl_get (i + 1) L j]
    simp
theorem zk_some {x : Option Value} {w : Value} (h : zk x = some w) : x = some w ∧ ¬ w.category = 2 := by
  cases x with
  | none => cases h
  | some v => cases v <;> first | (cases h; done) | (cases h; exact ⟨rfl, by decide⟩) | (have h9 := Option.some.inj h; subst h9; exact ⟨rfl, fun q => by cases q⟩)
theorem zst1_get {i : Nat} {v : Value} {L L' : zL} (h : zst1 i v L = some L') : i < L.length ∧ L'.length = L.length ∧ ∀ (j : Nat) (w : Value), L'[j]? = some (some w) → (j = i ∧ w = v) ∨ (j ≠ i ∧ L[j]? = some (some w) ∧ ¬ (j + 1 = i ∧ w.category = 2)) := by
  unfold zst1 at h
  cases hc : L[i]? with
  | none => rw [hc] at h; cases h
  | some o =>
    rw [hc] at h
    cases h
    have hi := get_lt hc
    refine ⟨hi, by rw [List.length_set, zcl_len], fun j w hw => ?_⟩
    rw [List.getElem?_set, zcl_len, zcl_get] at hw
    by_cases hj : i = j
    · subst hj
      rw [if_pos rfl, if_pos hi] at hw
      cases hw
      exact Or.inl ⟨rfl, rfl⟩
    · rw [if_neg hj] at hw
      refine Or.inr ⟨fun q => hj q.symm, ?_⟩
      by_cases h1 : j + 1 = i
      · rw [if_pos h1] at hw
        cases hx : L[j]? with
        | none => rw [hx] at hw; cases hw
        | some x =>
          rw [hx] at hw
          obtain ⟨e1, e2⟩ := zk_some (Option.some.inj hw)
          subst e1
          exact ⟨rfl, fun q => e2 q.2⟩
      · rw [if_neg h1] at hw
        exact ⟨hw, fun q => h1 q.1⟩
theorem zst2_get {i : Nat} {v : Value} {L L' : zL} (h : zst2 i v L = some L') : i + 1 < L.length ∧ L'.length = L.length ∧ ∀ (j : Nat) (w : Value), L'[j]? = some (some w) → (j = i ∧ w = v) ∨ (j ≠ i ∧ j ≠ i + 1 ∧ L[j]? = some (some w) ∧ ¬ (j + 1 = i ∧ w.category = 2)) := by
  unfold zst2 at h
  cases hc : L[i + 1]? with
  | none => rw [hc] at h; cases h
  | some o =>
    rw [hc] at h
    cases h
    have hi := get_lt hc
    refine ⟨hi, by rw [List.length_set, List.length_set, zcl_len], fun j w hw => ?_⟩
    rw [List.getElem?_set, List.length_set, List.getElem?_set, zcl_len, zcl_get] at hw
    by_cases hj1 : i + 1 = j
    · subst hj1
      rw [if_pos rfl, if_pos hi] at hw
      cases hw
    · rw [if_neg hj1] at hw
      by_cases hj : i = j
      · subst hj
        rw [if_pos rfl, if_pos (by omega)] at hw
        cases hw
        exact Or.inl ⟨rfl, rfl⟩
      · rw [if_neg hj] at hw
        refine Or.inr ⟨fun q => hj q.symm, fun q => hj1 q.symm, ?_⟩
        by_cases h1 : j + 1 = i
        · rw [if_pos h1] at hw
          cases hx : L[j]? with
          | none => rw [hx] at hw; cases hw
          | some x =>
            rw [hx] at hw
            obtain ⟨e1, e2⟩ := zk_some (Option.some.inj hw)
            subst e1
            exact ⟨rfl, fun q => e2 q.2⟩
        · rw [if_neg h1] at hw
          exact ⟨hw, fun q => h1 q.1⟩
theorem ylr.st1 {Y : zY} {ls : Array Slot} {nL i : Nat} {v : Value} {L L' : zL} (hz : zst1 i v L = some L') (hL : L.length = nL) (h : lv_has ls nL ((i, yv Y v) :: (yas Y L).filter (fun q => !(q.1 == i) && !(q.1 + 1 == i && q.2.category == 2)))) : ylr Y ls nL L' := by
  obtain ⟨h1, h2, h3⟩ := zst1_get hz
  refine ylr.of h (h2.trans hL) (fun j w hw => ?_)
  rcases h3 j w hw with ⟨rfl, rfl⟩ | ⟨g1, g2, g3⟩
  · exact List.mem_cons_self
  · refine List.mem_cons_of_mem _ (List.mem_filter.mpr ⟨yas_mem.mpr ⟨w, g2, rfl⟩, ?_⟩)
    have hc := yv_cat Y w
    simp only [Bool.and_eq_true, Bool.not_eq_true', beq_eq_false_iff_ne, Bool.and_eq_false_iff]
    refine ⟨g1, ?_⟩
    by_cases hj : j + 1 = i
    · exact Or.inr (fun q => g3 ⟨hj, by rw [← hc]; exact q⟩)
    · exact Or.inl hj
theorem ylr.st2 {Y : zY} {ls : Array Slot} {nL i : Nat} {v : Value} {L L' : zL} (hz : zst2 i v L = some L') (hL : L.length = nL) (h : lv_has ls nL ((i, yv Y v) :: (yas Y L).filter (fun q => !(q.1 == i) && (!(q.1 == i + 1) && !(q.1 + 1 == i && q.2.category == 2))))) : ylr Y ls nL L' := by
  obtain ⟨h1, h2, h3⟩ := zst2_get hz
  refine ylr.of h (h2.trans hL) (fun j w hw => ?_)
  rcases h3 j w hw with ⟨rfl, rfl⟩ | ⟨g1, g4, g2, g3⟩
  · exact List.mem_cons_self
  · refine List.mem_cons_of_mem _ (List.mem_filter.mpr ⟨yas_mem.mpr ⟨w, g2, rfl⟩, ?_⟩)
    have hc := yv_cat Y w
    simp only [Bool.and_eq_true, Bool.not_eq_true', beq_eq_false_iff_ne, Bool.and_eq_false_iff]
    refine ⟨g1, g4, ?_⟩
    by_cases hj : j + 1 = i
    · exact Or.inr (fun q => g3 ⟨hj, by rw [← hc]; exact q⟩)
    · exact Or.inl hj
/-! how large a heap is -/
def zcs (c : zC) : Nat := match c with
  | .inl (_, n, _) => n
  | .inr (ci, _) => zNf ci
def zsz (h : zH) : Nat := (h.map zcs).sum
theorem zsz_app (h g : zH) : zsz (h ++ g) = zsz h + zsz g := by
  unfold zsz
  rw [List.map_append, List.sum_append]
theorem zsz_set {h : zH} {k : Nat} {c c' : zC} (hk : h[k]? = some c) (he : zcs c' = zcs c) : zsz (h.set k c') = zsz h := by
  unfold zsz
  rw [List.map_set, he]
  have : (h.map zcs).set k (zcs c) = h.map zcs := by
    apply List.ext_getElem?
    intro i
    rw [List.getElem?_set]
    by_cases hi : k = i
    · subst hi
      rw [if_pos rfl, List.getElem?_map, hk, if_pos (by rw [List.length_map]; exact get_lt hk)]
      rfl
    · rw [if_neg hi]
  rw [this]
/-! the world -/
def yt (Y : zY) : List (ClassId × FieldType) := [(Y.2.1 0, .int), (Y.2.1 1, .boolean), (Y.2.1 2, .long), (Y.2.1 3, .object RX7), (Y.2.1 4, .array .int)]
def znest (w : Cond) : Bool := match w with
  | .methodLinkNest .. => true
  | _ => false
def yK (Y : zY) (U : State) : Prop := va_K Y.1 vwCl (yt Y) U ∧ (∀ w ∈ lw_tbl, znest w = true → va_Nw w U) ∧ va_AO RX7 U ∧ (Cond.arrayOver (.array .int)).before #[] U = true ∧
  vk_R RX5 51 "part" (Y.2.2.2.1 0) U ∧ vk_R RX5 60 "child" (Y.2.2.2.1 1) U ∧ vk_R RX5 65 "scene" (Y.2.2.2.1 2) U ∧ vk_R RX5 70 "wish" (Y.2.2.2.1 3) U
def yB (Y : zY) : Nat → Prop := fun q => Y.2.2.1 ≤ q
def yO (Y : zY) (U : State) (H : Heap) : Prop := (vk_S 4 [4, 5, 5, 4] [zword 0, zword 1, zword 2, zword 3] Y.2.2.2.1 Y.2.2.2.2.1 (yB Y) U H ∧ va_Z "java/lang/String" "COMPACT_STRINGS" "Z" (.int 1) (yB Y) U H ∧ va_Zq "jdk/internal/util/Preconditions" "SIOOBE_FORMATTER" "Ljava/util/function/BiFunction;" (yB Y) U H) ∧ va_X (Y.2.2.2.1 4) Y.2.2.2.2.2.1 Y.2.2.2.2.2.2 U H ∧ Y.2.2.2.1 4 < Y.2.2.1
def yG (Y : zY) (H : Heap) (h : zH) : Prop := H.size = Y.2.2.1 + h.length ∧ h.length ≤ 1000 ∧ va_P Y.1 vwCl (yw Y h) H
theorem yO.kept {Y : zY} {U : State} {H H1 : Heap} (h : yO Y U H) (hb : Y.2.2.1 ≤ H.size) (hq : ∀ q : Nat, q < H.size → ¬ yB Y q → H1[q]? = H[q]?) : yO Y U H1 :=
  ⟨⟨h.1.1.kept hq, h.1.2.1.kept hq, h.1.2.2.kept hq⟩, h.2.1.kept (hq _ (Nat.lt_of_lt_of_le h.2.2 hb) (Nat.not_le.mpr h.2.2)), h.2.2⟩
theorem yO.moved {Y : zY} {u U : State} {H : Heap} (hvm : u.vm.Alike U.vm) (h : yO Y u H) : yO Y U H := ⟨⟨vk_S.moved hvm h.1.1, va_Z.moved hvm h.1.2.1, va_Zq.moved hvm h.1.2.2⟩, va_X.moved hvm h.2.1, h.2.2⟩
/-- what a class of objects is -/
theorem vw_at {ci : Nat} (h : ci < 10) : vwCl[ci]? = some (zR ci, zT ci, zNf ci) := by
  match ci, h with
  | 0, _ => rfl
  | 1, _ => rfl
  | 2, _ => rfl
  | 3, _ => rfl
  | 4, _ => rfl
  | 5, _ => rfl
  | 6, _ => rfl
  | 7, _ => rfl
  | 8, _ => rfl
  | 9, _ => rfl
