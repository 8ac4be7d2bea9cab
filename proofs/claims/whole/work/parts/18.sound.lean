/-! every instruction; then runs: SOUNDNESS -/
def zoh (o : zO) : zH := match o with
  | .inl (_, _, _, h) => h
  | .inr (.inl (_, _, _, _, _, h)) => h
  | .inr (.inr (_, h)) => h
theorem zprim_heap {i b pc : Nat} {L : zL} {S : List Value} {h : zH} {o : zO} (ho : zprim i b pc L S h = some o) : zoh o = h := by
  unfold zprim zcall zn at ho
  repeat' split at ho
  all_goals first | (cases ho; done) | (cases ho; rfl)
set_option maxHeartbeats 4000000 in
theorem zs1_grow {E : zE} {d : Nat} {M : zM} {q : zI} {pc : Nat} {L : zL} {S : List Value} {h : zH} {o : zO} (ho : zs1 E d M q pc L S h = some o) : h.length ≤ (zoh o).length ∧ zsz h ≤ zsz (zoh o) := by
  unfold zs1 zn at ho
  repeat' split at ho
  all_goals first
    | (cases ho; done)
    | (cases ho; exact ⟨Nat.le_refl _, Nat.le_refl _⟩)
    | (rw [zprim_heap ho]; exact ⟨Nat.le_refl _, Nat.le_refl _⟩)
    | (cases ho; refine ⟨?_, ?_⟩ <;> simp only [zoh]
       · rw [List.length_append]; omega
       · rw [zsz_app]; omega)
    | (cases ho; refine ⟨?_, ?_⟩ <;> simp only [zoh]
       · rw [List.length_set]; exact Nat.le_refl _
       · apply Nat.le_of_eq
         symm
         apply zsz_set
         · assumption
         · rfl)
theorem zx_grow {E : zE} : ∀ (f d : Nat) (M : zM) (pc : Nat) (L : zL) (S : List Value) (h : zH) (r : Option Value) (h' : zH), zx E f d M pc L S h = some (r, h') → h.length ≤ h'.length ∧ zsz h ≤ zsz h' := by
  intro f
  induction f with
  | zero => intro d M pc L S h r h' hr; cases hr
  | succ f ih =>
    intro d M pc L S h r h' hr
    rw [zx] at hr
    cases hq : zat M pc with
    | none => rw [hq] at hr; cases hr
    | some q =>
      rw [hq] at hr
      simp only at hr
      cases ho : zs1 E d M q pc L S h with
      | none => rw [ho] at hr; cases hr
      | some o =>
        rw [ho] at hr
        obtain ⟨g1, g2⟩ := zs1_grow ho
        rcases o with ⟨pc', L', S', h1⟩ | ⟨i, as, pc', L', S', h1⟩ | ⟨r1, h1⟩
        · obtain ⟨g3, g4⟩ := ih _ _ _ _ _ _ _ _ hr
          exact ⟨Nat.le_trans g1 g3, Nat.le_trans g2 g4⟩
        · simp only at hr
          cases d with
          | zero => cases hr
          | succ d' =>
            simp only at hr
            cases hM : zmt[i]? with
            | none => rw [hM] at hr; cases hr
            | some M' =>
              rw [hM] at hr
              simp only at hr
              by_cases hl : (zfl as).length ≤ M'.2.2.1
              · rw [if_pos hl] at hr
                cases hc : zx E f d' M' 0 (zent M'.2.2.1 as) [] h1 with
                | none => rw [hc] at hr; cases hr
                | some r1 =>
                  rw [hc] at hr
                  obtain ⟨r1, h2⟩ := r1
                  obtain ⟨g3, g4⟩ := ih _ _ _ _ _ _ _ _ hc
                  obtain ⟨g5, g6⟩ := ih _ _ _ _ _ _ _ _ hr
                  exact ⟨Nat.le_trans g1 (Nat.le_trans g3 g5), Nat.le_trans g2 (Nat.le_trans g4 g6)⟩
              · rw [if_neg hl] at hr
                cases hr
        · cases hr
          exact ⟨g1, g2⟩
section ZS6
variable {p : Program} {l : Launch} {e : Env} {R : Room} {s : State} {m : MethodId} {args : Array Value} {below : List Frame} {meth : Method} {c : Code} {Q : State → Prop} {Y : zY} {M : zM} {d n0 s0 pc : Nat} {L : zL} {S : List Value} {h : zH} {o : zO}
theorem zs_ldc {n : Nat} {w : (Nat × Nat × Nat × Nat) × (Int32 × Int64) × List Nat} (X : zX p s m args meth c M Y n0) (hd : decode M.2.1 pc = .ok (.ldc n, 2)) (hz : zok M.1.cls M.1.name pc (.ldc n, w) = true) (ho : zs1 Y.2.2.2.2.2 d M (.ldc n, w) pc L S h = some o) (k : zCt p l e R s m args below meth c Q Y M d n0 s0 o) : zJ p l e R s m args below meth c Q Y M n0 s0 pc L S h := by
  simp only [zok] at hz
  simp only [zs1, zn] at ho
  split at ho
  · rename_i heq
    rw [heq] at hz
    simp only [decide_eq_true_eq] at hz
    cases ho
    intro H locs cells slots ls hl hG hS hc hs
    exact lv_ldc X.1 X.2.1 X.2.2.2.1 (X.2.2.2.2.1 _ (zU_mem hz rfl)) hd (k.1 H locs cells slots ls hl hG hS hc hs)
  · rename_i heq
    split at hz
    · rename_i h9
      exact absurd h9 heq
    · simp only [Bool.and_eq_true, decide_eq_true_eq] at hz
      obtain ⟨hown, hz⟩ := hz
      cases ho
      intro H locs cells slots ls hl hG hS hc hs
      have kk := k.1 H locs cells slots ls hl hG hS hc hs
      have hown2 : s.vm.findClass RX5 = some m.cls := by rw [← hown]; exact X.2.2.2.1
      obtain ⟨-, -, -, -, r0, r1, r2, r3⟩ := X.2.2.2.2.2.2.1
      split at hz
      · rename_i h9
        simp only [decide_eq_true_eq] at hz
        subst hz
        rw [h9] at kk
        exact va_ldcS X.1 X.2.1 hown2 r0 hd kk
      · rename_i h9
        simp only [decide_eq_true_eq] at hz
        subst hz
        rw [h9] at kk
        exact va_ldcS X.1 X.2.1 hown2 r1 hd kk
      · rename_i h9
        simp only [decide_eq_true_eq] at hz
        subst hz
        rw [h9] at kk
        exact va_ldcS X.1 X.2.1 hown2 r2 hd kk
      · rename_i h9
        simp only [decide_eq_true_eq] at hz
        subst hz
        rw [h9] at kk
        exact va_ldcS X.1 X.2.1 hown2 r3 hd kk
      · cases hz
set_option maxHeartbeats 4000000 in
theorem zstep {q : zI} (X : zX p s m args meth c M Y n0) (hR : d ≤ R.frames ∧ 40 * d ≤ R.locals) (hM : M ∈ zmt) (hq : zat M pc = some q) (ho : zs1 Y.2.2.2.2.2 d M q pc L S h = some o) (k : zCt p l e R s m args below meth c Q Y M d n0 s0 o) : zJ p l e R s m args below meth c Q Y M n0 s0 pc L S h := by
  have hmem := zlookup_mem _ _ _ hq
  have hk := zk_all M hM _ hmem
  have hl := zl_all M hM _ hmem
  unfold zokE at hk
  simp only [Bool.and_eq_true, decide_eq_true_eq] at hk
  obtain ⟨hd, hz⟩ := hk
  obtain ⟨i, w⟩ := q
  simp only at hd hz hl
  cases i
  case iconst n =>
    have hln : w.1.1 = 1 := of_decide_eq_true hl
    rw [hln] at hd
    simp only [zok, decide_eq_true_eq] at hz
    exact zs_iconst X hd hz ho k
  case bipush n =>
    have hln : w.1.1 = 2 := of_decide_eq_true hl
    rw [hln] at hd
    simp only [zok, decide_eq_true_eq] at hz
    exact zs_bipush X hd hz ho k
  case sipush n =>
    have hln : w.1.1 = 3 := of_decide_eq_true hl
    rw [hln] at hd
    simp only [zok, decide_eq_true_eq] at hz
    exact zs_sipush X hd hz ho k
  case lconst n =>
    have hln : w.1.1 = 1 := of_decide_eq_true hl
    rw [hln] at hd
    simp only [zok, decide_eq_true_eq] at hz
    exact zs_lconst X hd hz ho k
  case ldc_w n =>
    have hln : w.1.1 = 3 := of_decide_eq_true hl
    rw [hln] at hd
    simp only [zok, decide_eq_true_eq] at hz
    exact zs_ldc_w X hd (zU_mem hz rfl) ho k
  case ldc2_w n =>
    have hln : w.1.1 = 3 := of_decide_eq_true hl
    rw [hln] at hd
    simp only [zok, decide_eq_true_eq] at hz
    exact zs_ldc2_w X hd (zU_mem hz rfl) ho k
  case iload_n n =>
    have hln : w.1.1 = 1 := of_decide_eq_true hl
    rw [hln] at hd
    simp only [zok, decide_eq_true_eq] at hz
    exact zs_iload_n X hd hz ho k
  case iload n =>
    have hln : w.1.1 = 2 := of_decide_eq_true hl
    rw [hln] at hd
    simp only [zok, decide_eq_true_eq] at hz
    exact zs_iload X hd hz ho k
  case lload_n n =>
    have hln : w.1.1 = 1 := of_decide_eq_true hl
    rw [hln] at hd
    simp only [zok, decide_eq_true_eq] at hz
    exact zs_lload_n X hd hz ho k
  case lload n =>
    have hln : w.1.1 = 2 := of_decide_eq_true hl
    rw [hln] at hd
    simp only [zok, decide_eq_true_eq] at hz
    exact zs_lload X hd hz ho k
  case aload_n n =>
    have hln : w.1.1 = 1 := of_decide_eq_true hl
    rw [hln] at hd
    simp only [zok, decide_eq_true_eq] at hz
    exact zs_aload_n X hd hz ho k
  case aload n =>
    have hln : w.1.1 = 2 := of_decide_eq_true hl
    rw [hln] at hd
    simp only [zok, decide_eq_true_eq] at hz
    exact zs_aload X hd hz ho k
  case istore_n n =>
    have hln : w.1.1 = 1 := of_decide_eq_true hl
    rw [hln] at hd
    simp only [zok, decide_eq_true_eq] at hz
    exact zs_istore_n X hd hz ho k
  case astore_n n =>
    have hln : w.1.1 = 1 := of_decide_eq_true hl
    rw [hln] at hd
    simp only [zok, decide_eq_true_eq] at hz
    exact zs_astore_n X hd hz ho k
  case lstore_n n =>
    have hln : w.1.1 = 1 := of_decide_eq_true hl
    rw [hln] at hd
    simp only [zok, decide_eq_true_eq] at hz
    exact zs_lstore_n X hd hz ho k
  case istore n =>
    have hln : w.1.1 = 2 := of_decide_eq_true hl
    rw [hln] at hd
    simp only [zok, decide_eq_true_eq] at hz
    exact zs_istore X hd hz ho k
  case lstore n =>
    have hln : w.1.1 = 2 := of_decide_eq_true hl
    rw [hln] at hd
    simp only [zok, decide_eq_true_eq] at hz
    exact zs_lstore X hd hz ho k
  case iinc n z =>
    have hln : w.1.1 = 3 := of_decide_eq_true hl
    rw [hln] at hd
    simp only [zok, Bool.and_eq_true, decide_eq_true_eq] at hz
    exact zs_iinc X hd hz.1 hz.2 ho k
  case iadd =>
    have hln : w.1.1 = 1 := of_decide_eq_true hl
    rw [hln] at hd
    exact zs_iadd X hd ho k
  case isub =>
    have hln : w.1.1 = 1 := of_decide_eq_true hl
    rw [hln] at hd
    exact zs_isub X hd ho k
  case imul =>
    have hln : w.1.1 = 1 := of_decide_eq_true hl
    rw [hln] at hd
    exact zs_imul X hd ho k
  case iand =>
    have hln : w.1.1 = 1 := of_decide_eq_true hl
    rw [hln] at hd
    exact zs_iand X hd ho k
  case ior =>
    have hln : w.1.1 = 1 := of_decide_eq_true hl
    rw [hln] at hd
    exact zs_ior X hd ho k
  case ixor =>
    have hln : w.1.1 = 1 := of_decide_eq_true hl
    rw [hln] at hd
    exact zs_ixor X hd ho k
  case ishl =>
    have hln : w.1.1 = 1 := of_decide_eq_true hl
    rw [hln] at hd
    exact zs_ishl X hd ho k
  case ishr =>
    have hln : w.1.1 = 1 := of_decide_eq_true hl
    rw [hln] at hd
    exact zs_ishr X hd ho k
  case iushr =>
    have hln : w.1.1 = 1 := of_decide_eq_true hl
    rw [hln] at hd
    exact zs_iushr X hd ho k
  case ladd =>
    have hln : w.1.1 = 1 := of_decide_eq_true hl
    rw [hln] at hd
    exact zs_ladd X hd ho k
  case lmul =>
    have hln : w.1.1 = 1 := of_decide_eq_true hl
    rw [hln] at hd
    exact zs_lmul X hd ho k
  case land =>
    have hln : w.1.1 = 1 := of_decide_eq_true hl
    rw [hln] at hd
    exact zs_land X hd ho k
  case lor =>
    have hln : w.1.1 = 1 := of_decide_eq_true hl
    rw [hln] at hd
    exact zs_lor X hd ho k
  case lshl =>
    have hln : w.1.1 = 1 := of_decide_eq_true hl
    rw [hln] at hd
    exact zs_lshl X hd ho k
  case lshr =>
    have hln : w.1.1 = 1 := of_decide_eq_true hl
    rw [hln] at hd
    exact zs_lshr X hd ho k
  case lushr =>
    have hln : w.1.1 = 1 := of_decide_eq_true hl
    rw [hln] at hd
    exact zs_lushr X hd ho k
  case i2l =>
    have hln : w.1.1 = 1 := of_decide_eq_true hl
    rw [hln] at hd
    exact zs_i2l X hd ho k
  case l2i =>
    have hln : w.1.1 = 1 := of_decide_eq_true hl
    rw [hln] at hd
    exact zs_l2i X hd ho k
  case lcmp =>
    have hln : w.1.1 = 1 := of_decide_eq_true hl
    rw [hln] at hd
    exact zs_lcmp X hd ho k
  case idiv =>
    have hln : w.1.1 = 1 := of_decide_eq_true hl
    rw [hln] at hd
    exact zs_idiv X hd ho k
  case irem =>
    have hln : w.1.1 = 1 := of_decide_eq_true hl
    rw [hln] at hd
    exact zs_irem X hd ho k
  case ldiv =>
    have hln : w.1.1 = 1 := of_decide_eq_true hl
    rw [hln] at hd
    exact zs_ldiv X hd ho k
  case lrem =>
    have hln : w.1.1 = 1 := of_decide_eq_true hl
    rw [hln] at hd
    exact zs_lrem X hd ho k
  case dup =>
    have hln : w.1.1 = 1 := of_decide_eq_true hl
    rw [hln] at hd
    exact zs_dup X hd ho k
  case dup2 =>
    have hln : w.1.1 = 1 := of_decide_eq_true hl
    rw [hln] at hd
    exact zs_dup2 X hd ho k
  case iaload =>
    have hln : w.1.1 = 1 := of_decide_eq_true hl
    rw [hln] at hd
    exact zs_iaload X hd ho k
  case arraylength =>
    have hln : w.1.1 = 1 := of_decide_eq_true hl
    rw [hln] at hd
    exact zs_arraylength X hd ho k
  case baload =>
    have hln : w.1.1 = 1 := of_decide_eq_true hl
    rw [hln] at hd
    exact zs_baload X hd ho k
  case laload =>
    have hln : w.1.1 = 1 := of_decide_eq_true hl
    rw [hln] at hd
    exact zs_laload X hd ho k
  case aaload =>
    have hln : w.1.1 = 1 := of_decide_eq_true hl
    rw [hln] at hd
    exact zs_aaload X hd ho k
  case iastore =>
    have hln : w.1.1 = 1 := of_decide_eq_true hl
    rw [hln] at hd
    exact zs_iastore X hd ho k
  case bastore =>
    have hln : w.1.1 = 1 := of_decide_eq_true hl
    rw [hln] at hd
    exact zs_bastore X hd ho k
  case lastore =>
    have hln : w.1.1 = 1 := of_decide_eq_true hl
    rw [hln] at hd
    exact zs_lastore X hd ho k
  case aastore =>
    have hln : w.1.1 = 1 := of_decide_eq_true hl
    rw [hln] at hd
    exact zs_aastore X hd ho k
  case goto n =>
    have hln : w.1.1 = 3 := of_decide_eq_true hl
    rw [hln] at hd
    simp only [zok, decide_eq_true_eq] at hz
    exact zs_goto X hd hz ho k
  case ifCond cnd n =>
    have hln : w.1.1 = 3 := of_decide_eq_true hl
    rw [hln] at hd
    simp only [zok, decide_eq_true_eq] at hz
    cases cnd
    case eq => exact zs_if_eq X hd hz ho k
    case ne => exact zs_if_ne X hd hz ho k
    case lt => exact zs_if_lt X hd hz ho k
    case ge => exact zs_if_ge X hd hz ho k
    case gt => exact zs_if_gt X hd hz ho k
    case le => exact zs_if_le X hd hz ho k
  case if_icmp cnd n =>
    have hln : w.1.1 = 3 := of_decide_eq_true hl
    rw [hln] at hd
    simp only [zok, decide_eq_true_eq] at hz
    cases cnd
    case eq => exact zs_icmp_eq X hd hz ho k
    case ne => exact zs_icmp_ne X hd hz ho k
    case lt => exact zs_icmp_lt X hd hz ho k
    case ge => exact zs_icmp_ge X hd hz ho k
    case gt => exact zs_icmp_gt X hd hz ho k
    case le => exact zs_icmp_le X hd hz ho k
  case tableswitch d1 lo hi offs =>
    simp only [zok, Bool.and_eq_true, decide_eq_true_eq] at hz
    exact zs_tableswitch X hd hz.1.1.1.1.1 hz.1.1.1.1.2 hz.1.1.1.2 hz.1.1.2 hz.1.2 hz.2 ho k
  case getfield n =>
    have hln : w.1.1 = 3 := of_decide_eq_true hl
    rw [hln] at hd
    simp only [zok, Bool.and_eq_true, decide_eq_true_eq] at hz
    exact zs_getfield X hd (zU_mem hz.1.1 rfl) hz.1.2 hz.2 ho k
  case putfield n =>
    have hln : w.1.1 = 3 := of_decide_eq_true hl
    rw [hln] at hd
    simp only [zok, Bool.and_eq_true, Bool.or_eq_true, decide_eq_true_eq] at hz
    exact zs_putfield X hd (zU_mem hz.1.1.1 rfl) hz.1.1.2 hz.1.2 (hz.2.imp id (fun q => ⟨q.1.1, q.1.2, q.2⟩)) ho k
  case newarray t =>
    have hln : w.1.1 = 2 := of_decide_eq_true hl
    rw [hln] at hd
    simp only [zok] at hz
    refine zs_newarray X hd ?_ ho k
    cases t <;> simp only [decide_eq_true_eq] at hz
    case int => exact Or.inl ⟨rfl, hz⟩
    case boolean => exact Or.inr (Or.inl ⟨rfl, hz⟩)
    case long => exact Or.inr (Or.inr ⟨rfl, hz⟩)
    all_goals cases hz
  case anewarray n =>
    have hln : w.1.1 = 3 := of_decide_eq_true hl
    rw [hln] at hd
    simp only [zok, decide_eq_true_eq] at hz
    exact zs_anewarray X hd (zU_mem hz rfl) ho k
  case multianewarray n kk =>
    have hln : w.1.1 = 4 := of_decide_eq_true hl
    rw [hln] at hd
    simp only [zok, Bool.and_eq_true, decide_eq_true_eq] at hz
    exact zs_multianewarray X hd hz.2 (zU_mem hz.1 rfl) ho k
  case new n =>
    have hln : w.1.1 = 3 := of_decide_eq_true hl
    rw [hln] at hd
    simp only [zok, Bool.and_eq_true, decide_eq_true_eq] at hz
    exact zs_new X hd (zU_mem hz.1 rfl) hz.2 ho k
  case ldc n =>
    have hln : w.1.1 = 2 := of_decide_eq_true hl
    rw [hln] at hd
    exact zs_ldc X hd hz ho k
  case invokestatic n =>
    have hln : w.1.1 = 3 := by
      have h9 := hl
      simp only [zlok, Bool.and_eq_true, decide_eq_true_eq] at h9
      exact h9.1
    rw [hln] at hd
    exact zs_invokestatic X hR hd hz hl ho k
  case invokespecial n =>
    have hln : w.1.1 = 3 := by
      have h9 := hl
      simp only [zlok, Bool.and_eq_true, decide_eq_true_eq] at h9
      exact h9.1
    rw [hln] at hd
    exact zs_invokespecial X hR hd hz hl ho k
  case invokevirtual n =>
    have hln : w.1.1 = 3 := by
      have h9 := hl
      simp only [zlok, Bool.and_eq_true, decide_eq_true_eq] at h9
      exact h9.1
    rw [hln] at hd
    exact zs_invokevirtual X hR hd hz hl ho k
  case ireturn =>
    have hln : w.1.1 = 1 := of_decide_eq_true hl
    rw [hln] at hd
    simp only [zs1] at ho
    split at ho
    · rename_i v
      split at ho
      · rename_i hret
        cases ho
        intro H locs cells slots ls hl' hG hS hc hs
        exact k pc ls H locs cells slots ⟨hd, Or.inl hret⟩ hG hS hc hs
      · rename_i hret
        split at ho
        · rename_i hv
          cases ho
          intro H locs cells slots ls hl' hG hS hc hs
          exact k pc ls H locs cells slots ⟨hd, Or.inr ⟨hret, hv⟩⟩ hG hS hc hs
        · cases ho
      · cases ho
    · cases ho
  case lreturn =>
    have hln : w.1.1 = 1 := of_decide_eq_true hl
    rw [hln] at hd
    simp only [zs1] at ho
    split at ho
    · rename_i v
      split at ho
      · rename_i hret
        cases ho
        intro H locs cells slots ls hl' hG hS hc hs
        exact k pc ls H locs cells slots ⟨hd, hret⟩ hG hS hc hs
      · cases ho
    · cases ho
  case return_ =>
    have hln : w.1.1 = 1 := of_decide_eq_true hl
    rw [hln] at hd
    simp only [zs1] at ho
    split at ho
    · split at ho
      · rename_i hret
        cases ho
        intro H locs cells slots ls hl' hG hS hc hs
        exact k pc ls H locs cells slots ⟨hd, hret⟩ hG hS hc hs
      · cases ho
    · cases ho
  all_goals (simp only [zs1] at ho; cases ho)
end ZS6
theorem zfl_args (Y : zY) : ∀ (as : List Value) (i0 i : Nat) (v : Value), (zfl as)[i]? = some (some v) → (i0 + i, yv Y v) ∈ lv_args i0 (as.map (yv Y))
  | [], i0, i, v, h => by simp [zfl] at h
  | a :: as, i0, i, v, h => by
    have hc := yv_cat Y a
    unfold zfl at h
    rw [List.flatMap_cons] at h
    show (i0 + i, yv Y v) ∈ (i0, yv Y a) :: lv_args (if (yv Y a).category = 2 then i0 + 2 else i0 + 1) (as.map (yv Y))
    rw [hc]
    by_cases h2 : a.category = 2
    · rw [if_pos h2] at h ⊢
      match i, h with
      | 0, h => cases h; exact List.mem_cons_self
      | 1, h => cases h
      | i + 2, h =>
        have := zfl_args Y as (i0 + 2) i v h
        rw [show i0 + 2 + i = i0 + (i + 2) by omega] at this
        exact List.mem_cons_of_mem _ this
    · rw [if_neg h2] at h ⊢
      match i, h with
      | 0, h => cases h; exact List.mem_cons_self
      | i + 1, h =>
        have := zfl_args Y as (i0 + 1) i v h
        rw [show i0 + 1 + i = i0 + (i + 1) by omega] at this
        exact List.mem_cons_of_mem _ this
theorem zfl_len (Y : zY) : ∀ as : List Value, (lg_sl (as.map (yv Y))).length = (zfl as).length
  | [] => rfl
  | a :: as => by
    have ih := zfl_len Y as
    unfold lg_sl zfl at ih ⊢
    rw [List.map_cons, List.flatMap_cons, List.flatMap_cons, List.length_append, List.length_append, ih, yv_cat]
    split <;> rfl
theorem zent_ylr {Y : zY} {as : List Value} {n : Nat} (hn : (zfl as).length ≤ n) : ylr Y ((lg_sl (as.map (yv Y)) ++ List.replicate (n - (lg_sl (as.map (yv Y))).length) Slot.unset).toArray) n (zent n as) := by
  refine ylr.of (lv_entry (as.map (yv Y)) (by rw [zfl_len]; exact hn)) ?_ (fun i v hv => ?_)
  · unfold zent
    rw [List.length_append, List.length_replicate]
    omega
  · unfold zent at hv
    by_cases hi : i < (zfl as).length
    · rw [List.getElem?_append_left hi] at hv
      have := zfl_args Y as 0 i v hv
      rwa [Nat.zero_add] at this
    · rw [List.getElem?_append_right (by omega), List.getElem?_replicate] at hv
      split at hv <;> cases hv
set_option maxRecDepth 100000 in
theorem zplain : ∀ M ∈ zmt, plainName M.1.cls = true := fun M hM => List.all_eq_true.mp (show (zmt.all fun M => plainName M.1.cls) = true by decide +kernel) M hM
/-- the whole of it: where the small machine ends, so does the Java machine -/
def zSnd (l : Launch) (Y : zY) (f : Nat) : Prop := ∀ (d : Nat) (M : zM) (pc : Nat) (L : zL) (S : List Value) (h : zH) (r : Option Value) (h' : zH), M ∈ zmt → zx Y.2.2.2.2.2 f d M pc L S h = some (r, h') →
  ∀ (p : Program) (e : Env) (R : Room) (s : State) (m : MethodId) (args : Array Value) (below : List Frame) (meth : Method) (c : Code) (Q : State → Prop) (n0 s0 : Nat), zX p s m args meth c M Y n0 → (d ≤ R.frames ∧ 40 * d ≤ R.locals) → h'.length ≤ n0 + R.cells → zsz h' ≤ s0 + R.slots → zRt p l e R s m args below meth c Q Y M n0 s0 r h' → zJ p l e R s m args below meth c Q Y M n0 s0 pc L S h
set_option maxHeartbeats 4000000 in
theorem zmet_of {l : Launch} {Y : zY} {f : Nat} (ih : zSnd l Y f) {d i : Nat} {M : zM} {as : List Value} {h : zH} {r : Option Value} {h' : zH} (hM : zmt[i]? = some M) (hp : plainName M.1.cls = true) (hl : (zfl as).length ≤ M.2.2.1) (hx : zx Y.2.2.2.2.2 f d M 0 (zent M.2.2.1 as) [] h = some (r, h')) : zMet l Y d M as h r h' := by
  obtain ⟨g1, g2⟩ := zx_grow _ _ _ _ _ _ _ _ _ hx
  refine Met.ofW (cc := M.2.1) (maxL := M.2.2.1) (ret := M.2.2.2.1) hp rfl ?_
  intro p e s m args below meth c s₁ B hml hv
  obtain ⟨rfl, hG, hK, hO⟩ := hv
  have hr := B.returns
  have hlocks := B.notSynchronized
  have X : zX p s m (as.map (yv Y)).toArray meth c M Y h.length := ⟨B.exec, B.bytes, hml, findClass_of_methodNamed B.named, fun w hw => atoms_spec (ws := .code M.1 M.2.1 M.2.2.1 M.2.2.2.1 :: zU) B.pre w (List.mem_cons_of_mem _ hw), (name_of_methodNamed B.named B.method).1, hK, hO, hG.1⟩
  have hJ := ih d M 0 (zent M.2.2.1 as) [] h r h' (List.mem_of_getElem? hM) hx p e { frames := d, cells := h'.length - h.length, slots := zsz h' - zsz h, locals := 40 * d } s m (as.map (yv Y)).toArray below meth c (MQ below (zQ Y r h') (as.map (yv Y)).toArray s (h'.length - h.length) (zsz h' - zsz h) (yB Y)) h.length (zsz h) X ⟨Nat.le_refl _, Nat.le_refl _⟩ (by show h'.length ≤ h.length + (h'.length - h.length); omega) (by show zsz h' ≤ zsz h + (zsz h' - zsz h); omega) (by
    intro pc ls H locs cells slots hm hG1 hS hc hs
    have e1 : h'.length - h.length = cells := by omega
    have e2 : zsz h' - zsz h = slots := by omega
    rw [e1, e2]
    match r, hm with
    | some (.int v), ⟨hd, ht⟩ =>
      rcases ht with ht | ⟨ht, hv⟩
      · exact W.iret (v := v) X.1 X.2.1 (hr.trans ht) (fun t h1 _ => ⟨rfl, by rw [h1]; exact hG1, hS.F h1⟩) hS.2.2 hd
      · exact W.zret (v := v) X.1 X.2.1 (hr.trans ht) (by rcases hv with rfl | rfl <;> decide +kernel) (fun t h1 _ => ⟨rfl, by rw [h1]; exact hG1, hS.F h1⟩) hS.2.2 hd
    | some (.long v), ⟨hd, ht⟩ => exact W.lret (v := v) X.1 X.2.1 (hr.trans ht) (fun t h1 _ => ⟨rfl, by rw [h1]; exact hG1, hS.F h1⟩) hS.2.2 hd
    | none, ⟨hd, ht⟩ => exact W.vret X.1 X.2.1 (hr.trans ht) (fun t h1 _ => ⟨rfl, by rw [h1]; exact hG1, hS.F h1⟩) hS.2.2 hd)
  rw [lg_entry_eq]
  exact hJ s.heap [] 0 0 _ (zent_ylr hl) hG va_S.rf rfl rfl
theorem zsound (l : Launch) (Y : zY) : ∀ f : Nat, zSnd l Y f := by
  intro f
  induction f with
  | zero => intro d M pc L S h r h' _ hx; cases hx
  | succ f ih =>
    intro d M pc L S h r h' hM hx p e R s m args below meth c Q n0 s0 X hR hC hS0 hret
    rw [zx] at hx
    cases hq : zat M pc with
    | none => rw [hq] at hx; cases hx
    | some q =>
      rw [hq] at hx
      simp only at hx
      cases ho : zs1 Y.2.2.2.2.2 d M q pc L S h with
      | none => rw [ho] at hx; cases hx
      | some o =>
        rw [ho] at hx
        refine zstep X hR hM hq ho ?_
        rcases o with ⟨pc', L', S', h1⟩ | ⟨i, as, pc', L', S', h1⟩ | ⟨r1, h1⟩
        · obtain ⟨g1, g2⟩ := zx_grow _ _ _ _ _ _ _ _ _ hx
          exact ⟨ih d M pc' L' S' h1 r h' hM hx p e R s m args below meth c Q n0 s0 X hR hC hS0 hret, by omega, by omega⟩
        · simp only at hx
          cases d with
          | zero => cases hx
          | succ d' =>
            simp only at hx
            cases hM' : zmt[i]? with
            | none => rw [hM'] at hx; cases hx
            | some M' =>
              rw [hM'] at hx
              simp only at hx
              by_cases hl : (zfl as).length ≤ M'.2.2.1
              · rw [if_pos hl] at hx
                cases hc : zx Y.2.2.2.2.2 f d' M' 0 (zent M'.2.2.1 as) [] h1 with
                | none => rw [hc] at hx; cases hx
                | some r1 =>
                  rw [hc] at hx
                  obtain ⟨r1, h2⟩ := r1
                  obtain ⟨g1, g2⟩ := zx_grow _ _ _ _ _ _ _ _ _ hc
                  obtain ⟨g3, g4⟩ := zx_grow _ _ _ _ _ _ _ _ _ hx
                  have hpn : plainName M'.1.cls = true := zplain M' (List.mem_of_getElem? hM')
                  exact ⟨d', M', r1, h2, rfl, hM', zmet_of ih hM' hpn hl hc, g1, g2, by omega, by omega, ih (d' + 1) M pc' L' (zps r1 S') h2 r h' hM hx p e R s m args below meth c Q n0 s0 X hR hC hS0 hret⟩
              · rw [if_neg hl] at hx
                cases hx
        · cases hx
          exact hret
