/-! THE CLAIM OUT OF ONE WALK OF THE LAW'S BODY. Your part is whole_start (and what it stands on); all else here is the same for every law, but numbers. -/
def R_law : String := "SchoolPlayLaw"
def lw_P (b : Addr) (xs : List Int32) (args : Array Value) (s : State) : Prop := args = #[.ref b] ∧ s.IntsAt b xs ∧ xs.length ≤ 3072 ∧ (Jvm.Cond.and given_1 narrow_1).before args s = true
def lw_Q (_ : Array Value) (s : State) (o : Outcome) (t : State) : Prop := o = .returned (some (.int 1)) ∧ Framed s o t [] 600000 7302250
def lw_Z (below : List Frame) (a : Array Value) (s : State) : State → Prop := fun t => ∃ o, t.status = .running ∧ Ended t below o ∧ lw_Q a s o t
/-- the law's own end, with 1 on the stack, nothing written that was there before, its room as the claim has it -/
theorem lw_ret {p : Program} {l : Launch} {e : Env} {s : State} {m : MethodId} {below : List Frame} {meth : Method} {c : Code} {b : Nat} (hx : p.tables.exec = Jvm.exec) (hb : c.code = code) (hr : meth.sig.returnType = ret) (hlocks : meth.locks = false) {pc : Nat} {H : Heap} {ls : Array Slot} (hdg : decode code pc = .ok (.ireturn, 1)) : W p l e room_1 s m #[Value.ref b] below meth c H [] 600000 7302250 (lw_Z below #[Value.ref b] s) (F0 m pc ls [.int 1]) := by
  intro T hT X
  obtain ⟨fs, hret, hrun, hended, hW, hframe⟩ := X.leave (v := some (.int 1)) (hlocks := hlocks) (fun h => by rw [hr] at h; cases h)
  have hmeth' : T.vm.method? m = some meth := X.method'
  refine ⟨T.setFrames fs, ?_, .returned (some (.int 1)), hrun, hended, rfl, ⟨_, rfl⟩, hW, hframe⟩
  jvm_step X.here [X.here.top, hx, hb, hdg, hmeth', hr, ret, narrow_b1]
  (try refine ⟨rfl, ?_⟩); (try refine ⟨rfl, ?_⟩)
  first | (intro acts; rw [hret _ acts rfl rfl rfl]) | rw [hret _ _ rfl rfl rfl]
  exact Steps.refl _
/-- what holds at the law's entry: the machine, the code, the tables' words (any of lw_tbl by 'hts w (by decide +kernel)'), the script of L ints xs at the cell b, what the Statement gives of the start (any of its parts by flat_of_before) -/
def lw_At (p : Program) (s : State) (m : MethodId) (meth : Method) (c : Code) (b L : Nat) (xs : Nat → Int32) : Prop :=
  p.tables.exec = Jvm.exec ∧ c.code = code ∧ meth.sig.returnType = ret ∧ c.maxLocals = 4 ∧ s.vm.findClass R_law = some m.cls ∧ (∀ w ∈ lw_tbl, w.before #[Value.ref b] s = true) ∧ va_X b L xs s s.heap ∧ b < s.heap.size ∧ meth.locks = false ∧ (Jvm.Cond.and given_1 narrow_1).before #[Value.ref b] s = true ∧ meth.name = "law"
theorem va_sref {own tx : String} {k : Nat} {A : Array Value} {U : State} (h : (Cond.stringRef own k tx).before A U = true) : (Cond.stringRef own k tx).before #[] U = true := h
def ztm (i : Nat) : Term := match i with
  | 0 => .string RX5 51
  | 1 => .string RX5 60
  | 2 => .string RX5 65
  | _ => .string RX5 70
theorem z4c {P : Nat → Prop} (h0 : P 0) (h1 : P 1) (h2 : P 2) (h3 : P 3) : ∀ i, i < 4 → P i := fun i hi => by
  match i, hi with
  | 0, _ => exact h0
  | 1, _ => exact h1
  | 2, _ => exact h2
  | 3, _ => exact h3
theorem zltc {P : Nat → Prop} (n : Nat) (h : ∀ j, j < n → P j) (hl : P n) : ∀ j, j < n + 1 → P j := fun j hj => by
  rcases Nat.lt_or_ge j n with q | q
  · exact h j q
  · rw [show j = n by omega]; exact hl
theorem zlt0 {P : Nat → Prop} : ∀ j, j < 0 → P j := fun j h => absurd h (Nat.not_lt_zero j)
set_option maxRecDepth 100000 in
set_option maxHeartbeats 4000000 in
theorem z_strings {s : State} {args : Array Value} (hgv : (Jvm.Cond.and given_1 narrow_1).before args s = true) {A : Nat → Prop} (hA : ∀ a : Nat, a < s.heap.size → ¬ A a) : ∃ adK adV : Nat → Nat, vk_S 4 [4, 5, 5, 4] [zword 0, zword 1, zword 2, zword 3] adK adV A s s.heap ∧ ∀ i : Nat, i < 4 → (ztm i).eval args s none [] s = some (.ref (adK i)) := by
  have hs := flat_of_before _ hgv
  refine vk_Sof (args := args) (tm := ztm) ?_ ?_ ?_ ?_ ?_ ?_ ?_ hA
  · exact z4c (by decide) (by decide) (by decide) (by decide)
  · exact z4c (hs _ (by decide +kernel)) (hs _ (by decide +kernel)) (hs _ (by decide +kernel)) (hs _ (by decide +kernel))
  · exact z4c (hs _ (by decide +kernel)) (hs _ (by decide +kernel)) (hs _ (by decide +kernel)) (hs _ (by decide +kernel))
  · exact z4c (hs _ (by decide +kernel)) (hs _ (by decide +kernel)) (hs _ (by decide +kernel)) (hs _ (by decide +kernel))
  · exact z4c (hs _ (by decide +kernel)) (hs _ (by decide +kernel)) (hs _ (by decide +kernel)) (hs _ (by decide +kernel))
  · refine z4c ?_ ?_ ?_ ?_
    · exact zltc 3 (zltc 2 (zltc 1 (zltc 0 zlt0 (hs _ (by decide +kernel))) (hs _ (by decide +kernel))) (hs _ (by decide +kernel))) (hs _ (by decide +kernel))
    · exact zltc 4 (zltc 3 (zltc 2 (zltc 1 (zltc 0 zlt0 (hs _ (by decide +kernel))) (hs _ (by decide +kernel))) (hs _ (by decide +kernel))) (hs _ (by decide +kernel))) (hs _ (by decide +kernel))
    · exact zltc 4 (zltc 3 (zltc 2 (zltc 1 (zltc 0 zlt0 (hs _ (by decide +kernel))) (hs _ (by decide +kernel))) (hs _ (by decide +kernel))) (hs _ (by decide +kernel))) (hs _ (by decide +kernel))
    · exact zltc 3 (zltc 2 (zltc 1 (zltc 0 zlt0 (hs _ (by decide +kernel))) (hs _ (by decide +kernel))) (hs _ (by decide +kernel))) (hs _ (by decide +kernel))
  · have key : ∀ i j : Nat, i < j → j < 4 → (Cond.not (Cond.eq (ztm i) (ztm j))).before args s = true := by
      intro i j hij hj
      have hi : i < 3 := by omega
      match i, j, hij, hj with
      | 0, 1, _, _ => exact hs _ (by decide +kernel)
      | 0, 2, _, _ => exact hs _ (by decide +kernel)
      | 0, 3, _, _ => exact hs _ (by decide +kernel)
      | 1, 2, _, _ => exact hs _ (by decide +kernel)
      | 1, 3, _, _ => exact hs _ (by decide +kernel)
      | 2, 3, _, _ => exact hs _ (by decide +kernel)
    intro i j hi hj hne
    rcases Nat.lt_or_gt_of_ne hne with h | h
    · exact Or.inl (key i j h hj)
    · exact Or.inr (key j i h hi)
set_option maxRecDepth 100000 in
theorem z_sref : (∃ i : Nat, lw_tbl[i]? = some (Cond.stringRef RX5 51 "part")) ∧ (∃ i : Nat, lw_tbl[i]? = some (Cond.stringRef RX5 60 "child")) ∧ (∃ i : Nat, lw_tbl[i]? = some (Cond.stringRef RX5 65 "scene")) ∧ (∃ i : Nat, lw_tbl[i]? = some (Cond.stringRef RX5 70 "wish")) := ⟨⟨550, by decide +kernel⟩, ⟨619, by decide +kernel⟩, ⟨624, by decide +kernel⟩, ⟨629, by decide +kernel⟩⟩
set_option maxRecDepth 100000 in
theorem z_aow : lw_tbl[268]? = some (.arrayOver (.object RX7)) ∧ lw_tbl[370]? = some (.arrayOver (.array .int)) := ⟨by decide +kernel, by decide +kernel⟩
set_option maxRecDepth 100000 in
theorem z_lst : lw_tbl[564]? = some (.laysStatic "java/lang/String" "COMPACT_STRINGS" "Z") ∧ lw_tbl[580]? = some (.laysStatic "jdk/internal/util/Preconditions" "SIOOBE_FORMATTER" "Ljava/util/function/BiFunction;") := ⟨by decide +kernel, by decide +kernel⟩
set_option maxRecDepth 100000 in
set_option maxHeartbeats 4000000 in
theorem whole_of {p : Program} {e : Env} {s : State} {m : MethodId} {below : List Frame} {meth : Method} {c : Code} (hgoal : zGoal) (l : Launch) {b L : Nat} {xs : Nat → Int32} (hL : L ≤ 3072) (C0 : lw_At p s m meth c b L xs) : W p l e room_1 s m #[Value.ref b] below meth c s.heap [] 0 0 (lw_Z below #[Value.ref b] s) (entryFrame m ([Value.ref b] : List Value).toArray 4) := by
  obtain ⟨hx, hb, hr, hml, hown, hts, hX, hbl, hlocks, hgv, hname⟩ := C0
  have htsU : ∀ w ∈ zU, w.before #[Value.ref b] s = true := fun w hw => hts w (List.mem_filter.mp hw).1
  have hAll : ∀ a : Nat, a < s.heap.size → ¬ (fun q : Nat => s.heap.size ≤ q) a := fun a h => Nat.not_le.mpr h
  -- the classes
  have hcl : ∀ ci : Nat, ∃ q : ClassId × (Nat → Nat), ci < 10 → u_Kn s (zR ci) (zT ci) (zNf ci) q.1 q.2 := by
    intro ci
    by_cases h : ci < 10
    · obtain ⟨c0, i0, h0⟩ := u_known (C := zR ci) (T := zT ci) (N := zNf ci) (n := zNf ci) htsU (z_in h) (htsU _ (z_inst h))
      exact ⟨(c0, i0), fun _ => h0⟩
    · exact ⟨(0, fun _ => 0), fun q => absurd q h⟩
  obtain ⟨D, hD⟩ := Classical.axiomOfChoice hcl
  -- the arrays' classes
  obtain ⟨a0, k0, p0, f0, g0, d0⟩ := Cond.arrayClass_spec (htsU _ zac_int)
  obtain ⟨a1, k1, p1, f1, g1, d1⟩ := Cond.arrayClass_spec (htsU _ zac_boolean)
  obtain ⟨a2, k2, p2, f2, g2, d2⟩ := Cond.arrayClass_spec (htsU _ zac_long)
  have hao : va_AO RX7 s := va_AO.of (hts _ (List.mem_of_getElem? z_aow.1))
  obtain ⟨p3, a3, k3, e3, -, g3, d3, f3⟩ := Cond.arrayOver_spec (hts _ (List.mem_of_getElem? z_aow.1))
  have haa : (Cond.arrayOver (.array .int)).before #[] s = true := hts _ (List.mem_of_getElem? z_aow.2)
  obtain ⟨p4, a4, k4, e4, g4, d4, f4⟩ := Cond.arrayOver_specA (hts _ (List.mem_of_getElem? z_aow.2))
  -- the words and the script
  obtain ⟨adK, adV, hstr, hev⟩ := z_strings hgv hAll
  let sp : Nat → Nat := fun i => if i = 4 then b else adK i
  let Y : zY := ((fun ci => (D ci).1, fun ci => (D ci).2), (fun t => if t = 0 then a0 else if t = 1 then a1 else if t = 2 then a2 else if t = 3 then a3 else a4), s.heap.size, sp, adV, (L, xs))
  have hsp : ∀ i, i < 4 → sp i = adK i := fun i hi => if_neg (by omega)
  have hev' : ∀ i, i < 4 → (ztm i).eval #[] s none [] s = some (.ref (adK i)) := fun i hi => by
    have h1 := hev i hi
    have h2 : (ztm i).eval #[] s none [] s = (ztm i).eval #[Value.ref b] s none [] s := by
      unfold ztm
      split <;> exact Term.string_eval_of_vm (args := #[]) rfl
    rw [h2]; exact h1
  have hK : yK Y s := by
    refine ⟨⟨fun ci q hq => ?_, fun k q hq => ?_⟩, fun w hw hn => ?_, hao, haa, ?_, ?_, ?_, ?_⟩
    · have hlt : ci < 10 := get_lt hq
      rw [vw_at hlt] at hq
      cases hq
      exact hD ci hlt
    · have hlt : k < 5 := get_lt hq
      match k, hlt, hq with
      | 0, _, hq => cases hq; exact ⟨fun n z => ⟨fun k h => (by cases h), k0, g0, p0, d0⟩, f0⟩
      | 1, _, hq => cases hq; exact ⟨fun n z => ⟨fun k h => (by cases h), k1, g1, p1, d1⟩, f1⟩
      | 2, _, hq => cases hq; exact ⟨fun n z => ⟨fun k h => (by cases h), k2, g2, p2, d2⟩, f2⟩
      | 3, _, hq => cases hq; exact ⟨fun n z => ⟨fun k h => (by cases h), k3, g3, p3, d3⟩, ⟨k3, p3, g3, d3, e3, f3⟩⟩
      | 4, _, hq => cases hq; exact ⟨fun n z => ⟨fun k h => (by cases h), k4, g4, p4, d4⟩, f4⟩
    · have h1 := hts w hw
      cases w <;> first | exact va_Nw.of rfl h1 | (simp [znest] at hn; done)
    · obtain ⟨i, hi⟩ := z_sref.1
      exact vk_R.of (A := #[]) (va_sref (hts _ (List.mem_of_getElem? hi))) (hev' 0 (by decide))
    · obtain ⟨i, hi⟩ := z_sref.2.1
      exact vk_R.of (A := #[]) (va_sref (hts _ (List.mem_of_getElem? hi))) (hev' 1 (by decide))
    · obtain ⟨i, hi⟩ := z_sref.2.2.1
      exact vk_R.of (A := #[]) (va_sref (hts _ (List.mem_of_getElem? hi))) (hev' 2 (by decide))
    · obtain ⟨i, hi⟩ := z_sref.2.2.2
      exact vk_R.of (A := #[]) (va_sref (hts _ (List.mem_of_getElem? hi))) (hev' 3 (by decide))
  have hO : yO Y s s.heap := by
    refine ⟨⟨⟨fun i hi => ?_, fun i j hi hj hij => ?_⟩, ?_, ?_⟩, hX, hbl⟩
    · show va_O "java/lang/String" (sp i) _ s s.heap ∧ va_OF _ _ _ _ (sp i) _ s s.heap ∧ va_OF _ _ _ _ (sp i) _ s s.heap ∧ _
      rw [hsp i hi]
      exact hstr.1 i hi
    · have hij : sp i = sp j := hij
      rw [hsp i hi, hsp j hj] at hij
      exact hstr.2 i j hi hj hij
    · exact va_Zof (hts _ (List.mem_of_getElem? z_lst.1)) (htsU _ jw_ini0) (va_eqi (flat_of_before _ hgv _ (by decide +kernel))) hAll
    · exact va_Zqof (hts _ (List.mem_of_getElem? z_lst.2)) (htsU _ jw_ini3) (flat_of_before _ hgv _ (by decide +kernel)) hAll
  have X : zX p s m #[Value.ref b] meth c zm_L_law Y 0 := ⟨hx, hb, hml, hown, htsU, hname, hK, hO, rfl⟩
  obtain ⟨f, ⟨r, h'⟩, hrun, rfl, hl1, hl2⟩ := hgoal (L, xs) hL
  have hl1 : h'.length ≤ 1000 := hl1
  have hl2 : zsz h' ≤ 1000000 := hl2
  have hJ := zsound l Y f 50 zm_L_law 0 _ [] [] _ h' (List.mem_of_getElem? (i := 228) rfl) hrun p e room_1 s m #[Value.ref b] below meth c (lw_Z below #[Value.ref b] s) 0 0 X ⟨by decide, by decide⟩ (by show h'.length ≤ 0 + 600000; omega) (by show zsz h' ≤ 0 + 7302250; omega) (by
    intro pc ls H locs cells slots hm hG hS hc hs
    refine va_forget (fun q hq => hS.2.2 q hq) ?_
    refine W.widen (k := 600000) (n := 7302250) (by omega) (by omega) ?_
    exact lw_ret hx hb hr hlocks hm.1)
  rw [lg_entry_eq]
  have hent := zent_ylr (Y := Y) (as := [.ref 1004]) (n := 4) (by decide)
  exact hJ s.heap [] 0 0 _ hent ⟨rfl, by decide, fun k q hk => by simp [yw] at hk⟩ va_S.rf rfl rfl
theorem whole_start {p : Program} {e : Env} {s : State} {m : MethodId} {below : List Frame} {meth : Method} {c : Code} (l : Launch) {b L : Nat} {xs : Nat → Int32} (hL : L ≤ 3072) (C0 : lw_At p s m meth c b L xs) : W p l e room_1 s m #[Value.ref b] below meth c s.heap [] 0 0 (lw_Z below #[Value.ref b] s) (entryFrame m ([Value.ref b] : List Value).toArray 4) := whole_of z_goal l hL C0
-- ===== YOUR PART ENDS =====
set_option maxHeartbeats 4000000 in
theorem lw_walk (l : Launch) (b : Addr) (xs : List Int32) : MetFree l x (headSpec (Jvm.Cond.code x code maxLocals ret :: tables_1) room_1) (lw_P b xs) (fun _ _ _ _ _ => True) lw_Q := by
  refine MetFree.of_bodyS (code := code) (maxLocals := maxLocals) (ret := ret) (by decide) ?_ ?_
  · intro args s m h hn
    obtain ⟨meth, c, h1, h2, h3, h4, h5, h6, -, -⟩ := Cond.code_spec hn (atoms_spec (ws := Jvm.Cond.code x code maxLocals ret :: tables_1) h _ List.mem_cons_self)
    exact ⟨meth, c, h1, h2, h3, h4, h5, h6⟩
  · intro p e s m args below meth c s₁ B hml0 hP _
    obtain ⟨rfl, hx, hbd, hgv⟩ := hP
    obtain ⟨scr, harrAt, hlist, hof, hsmall⟩ := hx
    obtain ⟨hcb, hkn, -, -⟩ := State.arrayAt?_spec harrAt
    have hown : s.vm.findClass R_law = some m.cls := findClass_of_methodNamed B.named
    have hts0 : ∀ c ∈ (Jvm.Cond.code x code maxLocals ret :: tables_1), c.before #[Value.ref b] s = true := atoms_spec (ws := Jvm.Cond.code x code maxLocals ret :: tables_1) B.pre
    have hts : ∀ w ∈ lw_tbl, w.before #[Value.ref b] s = true := k2_hts_sels lw_privs (fun w hw => hts0 w (List.mem_cons_of_mem _ hw)) lw_privs_ok
    have hml : c.maxLocals = 4 := B.maxLocals_eq (hts0 _ List.mem_cons_self)
    have X₀ : Stand p l e room_1 s m #[Value.ref b] below meth c s₁ [] 0 0 := Stand.of_body B
    have hh0 : s₁.heap = s.heap := by rw [B.state]; rfl
    have hsz : scr.slots.size = xs.length := by rw [← Array.length_toList, hlist, List.length_map]
    have hval : ∀ j : Nat, j < xs.length → scr.slots[j]? = some (.int (xs.getD j 0)) := fun j hj => by
      rw [← Array.getElem?_toList, hlist]
      simp [hj]
    have hbl : b < s.heap.size := (Array.getElem?_eq_some_iff.mp hcb).1
    have hX : va_X b xs.length (fun j => xs.getD j 0) s s.heap := ⟨scr, hcb, hof, hkn, hsz, hval⟩
    have K : W p l e room_1 s m #[Value.ref b] below meth c s₁.heap [] 0 0 (lw_Z below #[Value.ref b] s) (entryFrame m ([Value.ref b] : List Value).toArray 4) := by
      rw [hh0]
      exact whole_start l hbd ⟨B.exec, B.bytes, B.returns, hml, hown, hts, hX, hbl, B.notSynchronized, hgv, (name_of_methodNamed B.named B.method).1⟩
    obtain ⟨t, a1, o, b1, b2, b3⟩ := K s₁ rfl X₀
    exact ⟨t, o, a1, b1, b2, b3⟩
theorem lw_pre_spec {args : Array Value} {s : State} (h : (Jvm.Cond.and given_1 narrow_1).before args s = true) (hr : rest_1_c.before args s = true) : ∃ (b : Addr) (xs : List Int32), lw_P b xs args s := by
  have hs := flat_of_before _ h
  have hq := flat_of_before _ hr
  have hc : (Cond.count 1).before args s = true := hs _ (by decide +kernel)
  have harr : (Cond.arrayOf (.arg 0) .int).before args s = true := hs _ (by decide +kernel)
  have hle : (Cond.le (.length (.arg 0)) (.int 3072)).before args s = true := hs _ (by decide +kernel)
  have hlen : (Cond.isInt (.length (.arg 0))).before args s = true := hq _ (by decide +kernel)
  have hall : (Cond.all (.arg 0) (.isInt (.elem (.arg 0) (.index 0)))).before args s = true := hq _ (by decide +kernel)
  obtain ⟨b, xs, hb, hx⟩ := State.ints_of_pre rfl harr hlen hall
  have hsm : xs.length < 2 ^ 31 := hx.choose_spec.2.2.2
  have hev : (Term.length (.arg 0)).eval args s none [] s = some (.int xs.length.toInt32) := hx.length_eval hb
  have hv := Cond.le_ints hev (show (Term.int 3072).eval args s none [] s = some (.int 3072) from rfl)
  have hd : xs.length.toInt32 ≤ 3072 := by
    simpa [Cond.before, Cond.holds, hv] using hle
  have hN : xs.length ≤ 3072 := (Int32.ofNat_le_ofNat hsm (by decide)).mp (show Int32.ofNat xs.length ≤ Int32.ofNat 3072 from hd)
  exact ⟨b, xs, Cond.one_arg hc (show args[0]? = some (.ref b) from hb), hx, hN, h⟩
theorem lw_comes (l : Launch) : Comes l x (Jvm.Cond.code x code maxLocals ret :: tables_1) room_1 (fun tb e args s => Calls_1 tb e args s ∧ rest_1 tb e args s ∧ Pre_1 tb e args s)
    (fun _ _ args s o t => lw_Q args s o t) := by
  intro p e ha hc hk s m args below hf hfit hheap happ hpre
  obtain ⟨b, xs, hP⟩ := lw_pre_spec hpre.2.2 hpre.2.1
  obtain ⟨k, o, h1, h2, h3, hQ⟩ := lw_walk l b xs p e ha hc hk s m args below hf ((Spec.applies_iff_loose hf).mp happ).1 hP trivial
  exact ⟨k, o, h1, h2, h3, hQ⟩
theorem lw_frame {s t : State} {o : Outcome} {args : Array Value} (h : Framed s o t [] 600000 7302250) :
    Framed s o t (fieldLocs frame_1_writes args s ++ arrayLocs frame_1_arrays args s ++ staticLocs frame_1_statics s) 600000 7302250 := h
theorem lw_limb (L : Cond) (hL : ∀ (args : Array Value) (s t : State), L.after args s (.returned (some (.int 1))) t = true) :
    ArmFor flags0 classFile x code maxLocals ret World_1 tables_1 room_1 Calls_1 rest_1 Pre_1
      (fun tb e a s o t => postC L tb e a s o t ∧ Framed s o t (fieldLocs frame_1_writes a s ++ arrayLocs frame_1_arrays a s ++ staticLocs frame_1_statics s) 600000 7302250) := by
  intro l _ _ _ p e ha hc hk s m args below hf hfit hheap happ hpre
  obtain ⟨k, o, h1, h2, h3, rfl, hF⟩ := lw_comes l p e ha hc hk s m args below hf hfit hheap happ hpre
  exact ⟨k, _, h1, h2, h3, hL args s _, lw_frame hF⟩
theorem i_vc : Claimed_1_1 ∧ Claimed_1_2 := ⟨lw_limb limb_1_1 (fun args s t => by simp [limb_1_1, Cond.after, Cond.holds, Cond.value]), lw_limb limb_1_2 (fun args s t => Cond.after_iff.mpr (by
  first | (rw [show limb_1_2 = Cond.eq .result (.int 1) from rfl, Cond.eq_ints (x := 1) (y := 1) rfl rfl]; simp; done) | (simp [limb_1_2, Cond.value, Term.eval]; done)))⟩
