/-! WHAT A STATE OF THE SMALL MACHINE ASKS FOR: rows of equations, for the block rows that a program writes -/
def zcfg : Type := Nat × zL × List Value × zH
def zrn (E : zE) (d : Nat) (M : zM) : Nat → Nat → zL → List Value → zH → Option (Nat × zL × List Value × zH)
  | 0, pc, L, S, h => some (pc, L, S, h)
  | k + 1, pc, L, S, h => match zat M pc with
    | none => none
    | some q => match zs1 E d M q pc L S h with
      | some (.inl (pc', L', S', h')) => zrn E d M k pc' L' S' h'
      | _ => none
theorem Ev_run {E : zE} {d : Nat} {M : zM} : ∀ (k : Nat) {pc pc' : Nat} {L L' : zL} {S S' : List Value} {h h' : zH} {Q : Option Value → zH → Prop}, zrn E d M k pc L S h = some (pc', L', S', h') → Ev E d M pc L S h Q = Ev E d M pc' L' S' h' Q
  | 0, pc, pc', L, L', S, S', h, h', Q, hr => by cases hr; rfl
  | k + 1, pc, pc', L, L', S, S', h, h', Q, hr => by
    rw [zrn] at hr
    cases hq : zat M pc with
    | none => rw [hq] at hr; cases hr
    | some q =>
      rw [hq] at hr
      simp only at hr
      cases ho : zs1 E d M q pc L S h with
      | none => rw [ho] at hr; cases hr
      | some o =>
        rw [ho] at hr
        rcases o with ⟨pc1, L1, S1, h1⟩ | o
        · rw [Ev_eq hq, ho]
          exact Ev_run k hr
        · cases hr
def zgf (h : zH) (o ci k : Nat) (K : Value → Prop) : Prop := match h[o]? with
  | some (.inr (c, fs)) => if c = ci then (match fs[k]? with
    | some v => K v
    | none => False) else False
  | _ => False
def zpf (h : zH) (o ci k : Nat) (v : Value) (K : zH → Prop) : Prop := match h[o]? with
  | some (.inr (c, fs)) => if c = ci ∧ k < fs.length ∧ zfv (zTy ci k) v = true then K (h.set o (.inr (c, fs.set k v))) else False
  | _ => False
def zri (E : zE) (h : zH) (o : Nat) (i : Int32) (K : Int32 → Prop) : Prop := match zar E h o with
  | some (.inl (0, n, .inl f)) => if i < 0 ∨ n ≤ i.toNatClampNeg then False else K (f i.toNatClampNeg)
  | _ => False
def zrb (h : zH) (o : Nat) (i : Int32) (K : Int32 → Prop) : Prop := match h[o]? with
  | some (.inl (1, n, .inl f)) => if i < 0 ∨ n ≤ i.toNatClampNeg then False else K (f i.toNatClampNeg)
  | _ => False
def zrl (h : zH) (o : Nat) (i : Int32) (K : Int64 → Prop) : Prop := match h[o]? with
  | some (.inl (2, n, .inr (.inl f))) => if i < 0 ∨ n ≤ i.toNatClampNeg then False else K (f i.toNatClampNeg)
  | _ => False
def zra (h : zH) (o : Nat) (i : Int32) (K : Nat → Prop) : Prop := match h[o]? with
  | some (.inl (t, n, .inr (.inr (.inr (.inr f))))) => if i < 0 ∨ n ≤ i.toNatClampNeg ∨ (t ≠ 3 ∧ t ≠ 4) then False else (match f i.toNatClampNeg with
    | some r => K r
    | none => False)
  | _ => False
def zwi (h : zH) (o : Nat) (i x : Int32) (K : zH → Prop) : Prop := match h[o]? with
  | some (.inl (0, n, .inl f)) => if i < 0 ∨ n ≤ i.toNatClampNeg then False else K (h.set o (.inl (0, n, .inl (upd f i.toNatClampNeg x))))
  | _ => False
def zwb (h : zH) (o : Nat) (i x : Int32) (K : zH → Prop) : Prop := match h[o]? with
  | some (.inl (1, n, .inl f)) => if i < 0 ∨ n ≤ i.toNatClampNeg then False else K (h.set o (.inl (1, n, .inl (upd f i.toNatClampNeg (vp_nar .boolean x)))))
  | _ => False
def zwl (h : zH) (o : Nat) (i : Int32) (x : Int64) (K : zH → Prop) : Prop := match h[o]? with
  | some (.inl (2, n, .inr (.inl f))) => if i < 0 ∨ n ≤ i.toNatClampNeg then False else K (h.set o (.inl (2, n, .inr (.inl (vp_updL f i.toNatClampNeg x)))))
  | _ => False
def zal (E : zE) (h : zH) (o : Nat) (K : Int32 → Prop) : Prop := match zar E h o with
  | some (.inl (t, n, _)) => if t < 5 then K (Int32.ofNat n) else False
  | _ => False
def zvc (h : zH) (o ci : Nat) (P : Prop) : Prop := match h[o]? with
  | some (.inr (c, _)) => if c = ci then P else False
  | _ => False
def zsl (a : Nat) (K : Int32 → Prop) : Prop := if 1000 ≤ a ∧ a < 1004 then K (Int32.ofNat (zword (a - 1000)).length) else False
def zsc (a : Nat) (j : Int32) (K : Int32 → Prop) : Prop := if 1000 ≤ a ∧ a < 1004 ∧ ¬ (j < 0 ∨ (zword (a - 1000)).length ≤ j.toNatClampNeg) then K ((zword (a - 1000)).getD j.toNatClampNeg 0) else False
section EVS
variable {E : zE} {d : Nat} {M : zM} {pc : Nat} {L : zL} {S : List Value} {h : zH} {Q : Option Value → zH → Prop} {w : (Nat × Nat × Nat × Nat) × (Int32 × Int64) × List Nat}
theorem Ev_getfield {i o : Nat} (hq : zat M pc = some (.getfield i, w)) : Ev E d M pc L (.ref o :: S) h Q = zgf h o w.1.2.1 w.1.2.2.1 (fun v => Ev E d M (pc + 3) L (v :: S) h Q) := by
  rw [Ev_eq hq]
  simp only [zs1, zgf, zn]
  cases h[o]? with
  | none => rfl
  | some c =>
    rcases c with a | ⟨ci, fs⟩
    · rfl
    · simp only
      by_cases hc : ci = w.1.2.1
      · rw [if_pos hc, if_pos hc]
        cases fs[w.1.2.2.1]? <;> rfl
      · rw [if_neg hc, if_neg hc]; rfl
theorem Ev_putfield {i o : Nat} {v : Value} (hq : zat M pc = some (.putfield i, w)) : Ev E d M pc L (v :: .ref o :: S) h Q = zpf h o w.1.2.1 w.1.2.2.1 v (fun h => Ev E d M (pc + 3) L S h Q) := by
  rw [Ev_eq hq]
  simp only [zs1, zpf, zn]
  cases h[o]? with
  | none => rfl
  | some c =>
    rcases c with a | ⟨ci, fs⟩
    · rfl
    · simp only
      by_cases hc : ci = w.1.2.1 ∧ w.1.2.2.1 < fs.length ∧ zfv (zTy w.1.2.1 w.1.2.2.1) v = true
      · rw [if_pos hc, if_pos hc]; rfl
      · rw [if_neg hc, if_neg hc]; rfl
theorem Ev_iaload {o : Nat} {i : Int32} (hq : zat M pc = some (.iaload, w)) : Ev E d M pc L (.int i :: .ref o :: S) h Q = zri E h o i (fun v => Ev E d M (pc + 1) L (.int v :: S) h Q) := by
  rw [Ev_eq hq]
  simp only [zs1, zri, zn]
  split
  · rename_i n f hz
    rw [hz]
    simp only
    split <;> rfl
  · rename_i hz
    split
    · rename_i n f hz2
      exact absurd hz2 (hz n f)
    · rfl
theorem Ev_baload {o : Nat} {i : Int32} (hq : zat M pc = some (.baload, w)) : Ev E d M pc L (.int i :: .ref o :: S) h Q = zrb h o i (fun v => Ev E d M (pc + 1) L (.int v :: S) h Q) := by
  rw [Ev_eq hq]
  simp only [zs1, zrb, zn]
  split
  · rename_i n f hz
    rw [hz]
    simp only
    split <;> rfl
  · rename_i hz
    split
    · rename_i n f hz2
      exact absurd hz2 (hz n f)
    · rfl
theorem Ev_laload {o : Nat} {i : Int32} (hq : zat M pc = some (.laload, w)) : Ev E d M pc L (.int i :: .ref o :: S) h Q = zrl h o i (fun v => Ev E d M (pc + 1) L (.long v :: S) h Q) := by
  rw [Ev_eq hq]
  simp only [zs1, zrl, zn]
  split
  · rename_i n f hz
    rw [hz]
    simp only
    split <;> rfl
  · rename_i hz
    split
    · rename_i n f hz2
      exact absurd hz2 (hz n f)
    · rfl
theorem Ev_aaload {o : Nat} {i : Int32} (hq : zat M pc = some (.aaload, w)) : Ev E d M pc L (.int i :: .ref o :: S) h Q = zra h o i (fun v => Ev E d M (pc + 1) L (.ref v :: S) h Q) := by
  rw [Ev_eq hq]
  simp only [zs1, zra, zn]
  split
  · rename_i t n f hz
    rw [hz]
    simp only
    split
    · rfl
    · cases f i.toNatClampNeg <;> rfl
  · rename_i hz
    split
    · rename_i t n f hz2
      exact absurd hz2 (hz t n f)
    · rfl
theorem Ev_iastore {o : Nat} {i x : Int32} (hq : zat M pc = some (.iastore, w)) : Ev E d M pc L (.int x :: .int i :: .ref o :: S) h Q = zwi h o i x (fun h => Ev E d M (pc + 1) L S h Q) := by
  rw [Ev_eq hq]
  simp only [zs1, zwi, zn]
  split
  · rename_i n f hz
    rw [hz]
    simp only
    split <;> rfl
  · rename_i hz
    split
    · rename_i n f hz2
      exact absurd hz2 (hz n f)
    · rfl
theorem Ev_bastore {o : Nat} {i x : Int32} (hq : zat M pc = some (.bastore, w)) : Ev E d M pc L (.int x :: .int i :: .ref o :: S) h Q = zwb h o i x (fun h => Ev E d M (pc + 1) L S h Q) := by
  rw [Ev_eq hq]
  simp only [zs1, zwb, zn]
  split
  · rename_i n f hz
    rw [hz]
    simp only
    split <;> rfl
  · rename_i hz
    split
    · rename_i n f hz2
      exact absurd hz2 (hz n f)
    · rfl
theorem Ev_lastore {o : Nat} {i : Int32} {x : Int64} (hq : zat M pc = some (.lastore, w)) : Ev E d M pc L (.long x :: .int i :: .ref o :: S) h Q = zwl h o i x (fun h => Ev E d M (pc + 1) L S h Q) := by
  rw [Ev_eq hq]
  simp only [zs1, zwl, zn]
  split
  · rename_i n f hz
    rw [hz]
    simp only
    split <;> rfl
  · rename_i hz
    split
    · rename_i n f hz2
      exact absurd hz2 (hz n f)
    · rfl
theorem Ev_arraylength {o : Nat} (hq : zat M pc = some (.arraylength, w)) : Ev E d M pc L (.ref o :: S) h Q = zal E h o (fun v => Ev E d M (pc + 1) L (.int v :: S) h Q) := by
  rw [Ev_eq hq]
  simp only [zs1, zal, zn]
  split
  · rename_i t n f hz
    rw [hz]
    simp only
    split <;> rfl
  · rename_i hz
    split
    · rename_i t n f hz2
      exact absurd hz2 (hz t n f)
    · rfl
theorem Ev_idiv {x y : Int32} (hq : zat M pc = some (.idiv, w)) : Ev E d M pc L (.int y :: .int x :: S) h Q = (¬ y = 0 ∧ Ev E d M (pc + 1) L (.int (x / y) :: S) h Q) := by
  rw [Ev_eq hq]
  simp only [zs1, zn]
  by_cases hy : y = 0 <;> simp [hy, zaft]
theorem Ev_irem {x y : Int32} (hq : zat M pc = some (.irem, w)) : Ev E d M pc L (.int y :: .int x :: S) h Q = (¬ y = 0 ∧ Ev E d M (pc + 1) L (.int (x - x / y * y) :: S) h Q) := by
  rw [Ev_eq hq]
  simp only [zs1, zn]
  by_cases hy : y = 0 <;> simp [hy, zaft]
theorem Ev_ldiv {x y : Int64} (hq : zat M pc = some (.ldiv, w)) : Ev E d M pc L (.long y :: .long x :: S) h Q = (¬ y = 0 ∧ Ev E d M (pc + 1) L (.long (x / y) :: S) h Q) := by
  rw [Ev_eq hq]
  simp only [zs1, zn]
  by_cases hy : y = 0 <;> simp [hy, zaft]
theorem Ev_lrem {x y : Int64} (hq : zat M pc = some (.lrem, w)) : Ev E d M pc L (.long y :: .long x :: S) h Q = (¬ y = 0 ∧ Ev E d M (pc + 1) L (.long (x - x / y * y) :: S) h Q) := by
  rw [Ev_eq hq]
  simp only [zs1, zn]
  by_cases hy : y = 0 <;> simp [hy, zaft]
theorem Ev_if_eq {n : Int} {x : Int32} (hq : zat M pc = some (.ifCond .eq n, w)) : Ev E d M pc L (.int x :: S) h Q = if x = 0 then Ev E d M w.1.2.1 L S h Q else Ev E d M (pc + 3) L S h Q := by
  rw [Ev_eq hq]
  simp only [zs1, zn]
  split <;> rfl
theorem Ev_if_ne {n : Int} {x : Int32} (hq : zat M pc = some (.ifCond .ne n, w)) : Ev E d M pc L (.int x :: S) h Q = if x = 0 then Ev E d M (pc + 3) L S h Q else Ev E d M w.1.2.1 L S h Q := by
  rw [Ev_eq hq]
  simp only [zs1, zn]
  split <;> rfl
theorem Ev_if_lt {n : Int} {x : Int32} (hq : zat M pc = some (.ifCond .lt n, w)) : Ev E d M pc L (.int x :: S) h Q = if x < 0 then Ev E d M w.1.2.1 L S h Q else Ev E d M (pc + 3) L S h Q := by
  rw [Ev_eq hq]
  simp only [zs1, zn]
  split <;> rfl
theorem Ev_if_ge {n : Int} {x : Int32} (hq : zat M pc = some (.ifCond .ge n, w)) : Ev E d M pc L (.int x :: S) h Q = if x < 0 then Ev E d M (pc + 3) L S h Q else Ev E d M w.1.2.1 L S h Q := by
  rw [Ev_eq hq]
  simp only [zs1, zn]
  split <;> rfl
theorem Ev_if_gt {n : Int} {x : Int32} (hq : zat M pc = some (.ifCond .gt n, w)) : Ev E d M pc L (.int x :: S) h Q = if 0 < x then Ev E d M w.1.2.1 L S h Q else Ev E d M (pc + 3) L S h Q := by
  rw [Ev_eq hq]
  simp only [zs1, zn]
  split <;> rfl
theorem Ev_if_le {n : Int} {x : Int32} (hq : zat M pc = some (.ifCond .le n, w)) : Ev E d M pc L (.int x :: S) h Q = if 0 < x then Ev E d M (pc + 3) L S h Q else Ev E d M w.1.2.1 L S h Q := by
  rw [Ev_eq hq]
  simp only [zs1, zn]
  split <;> rfl
theorem Ev_icmp_eq {n : Int} {x y : Int32} (hq : zat M pc = some (.if_icmp .eq n, w)) : Ev E d M pc L (.int y :: .int x :: S) h Q = if x = y then Ev E d M w.1.2.1 L S h Q else Ev E d M (pc + 3) L S h Q := by
  rw [Ev_eq hq]
  simp only [zs1, zn]
  split <;> rfl
theorem Ev_icmp_ne {n : Int} {x y : Int32} (hq : zat M pc = some (.if_icmp .ne n, w)) : Ev E d M pc L (.int y :: .int x :: S) h Q = if x = y then Ev E d M (pc + 3) L S h Q else Ev E d M w.1.2.1 L S h Q := by
  rw [Ev_eq hq]
  simp only [zs1, zn]
  split <;> rfl
theorem Ev_icmp_lt {n : Int} {x y : Int32} (hq : zat M pc = some (.if_icmp .lt n, w)) : Ev E d M pc L (.int y :: .int x :: S) h Q = if x < y then Ev E d M w.1.2.1 L S h Q else Ev E d M (pc + 3) L S h Q := by
  rw [Ev_eq hq]
  simp only [zs1, zn]
  split <;> rfl
theorem Ev_icmp_ge {n : Int} {x y : Int32} (hq : zat M pc = some (.if_icmp .ge n, w)) : Ev E d M pc L (.int y :: .int x :: S) h Q = if x < y then Ev E d M (pc + 3) L S h Q else Ev E d M w.1.2.1 L S h Q := by
  rw [Ev_eq hq]
  simp only [zs1, zn]
  split <;> rfl
theorem Ev_icmp_gt {n : Int} {x y : Int32} (hq : zat M pc = some (.if_icmp .gt n, w)) : Ev E d M pc L (.int y :: .int x :: S) h Q = if y < x then Ev E d M w.1.2.1 L S h Q else Ev E d M (pc + 3) L S h Q := by
  rw [Ev_eq hq]
  simp only [zs1, zn]
  split <;> rfl
theorem Ev_icmp_le {n : Int} {x y : Int32} (hq : zat M pc = some (.if_icmp .le n, w)) : Ev E d M pc L (.int y :: .int x :: S) h Q = if y < x then Ev E d M (pc + 3) L S h Q else Ev E d M w.1.2.1 L S h Q := by
  rw [Ev_eq hq]
  simp only [zs1, zn]
  split <;> rfl
theorem Ev_iret {v : Int32} (hq : zat M pc = some (.ireturn, w)) (hr : M.2.2.2.1 = some .int) : Ev E d M pc L [.int v] h Q = Q (some (.int v)) h := by
  rw [Ev_eq hq]
  simp only [zs1, hr, zaft]
theorem Ev_zret {v : Int32} (hq : zat M pc = some (.ireturn, w)) (hr : M.2.2.2.1 = some .boolean) : Ev E d M pc L [.int v] h Q = ((v = 0 ∨ v = 1) ∧ Q (some (.int v)) h) := by
  rw [Ev_eq hq]
  simp only [zs1, hr]
  by_cases hv : v = 0 ∨ v = 1
  · rw [if_pos hv]
    simp only [zaft, hv, true_and]
  · rw [if_neg hv]
    simp only [zaft, hv, false_and]
theorem Ev_lret {v : Int64} (hq : zat M pc = some (.lreturn, w)) (hr : M.2.2.2.1 = some .long) : Ev E d M pc L [.long v] h Q = Q (some (.long v)) h := by
  rw [Ev_eq hq]
  simp only [zs1, hr, zaft]
theorem Ev_vret (hq : zat M pc = some (.return_, w)) (hr : M.2.2.2.1 = none) : Ev E d M pc L [] h Q = Q none h := by
  rw [Ev_eq hq]
  simp only [zs1, hr, zaft]
theorem Ev_call {q : zI} {i pc' : Nat} {as : List Value} {L' : zL} {S' : List Value} {h' : zH} (hq : zat M pc = some q) (hs : zs1 E (d + 1) M q pc L S h = some (.inr (.inl (i, as, pc', L', S', h')))) : Ev E (d + 1) M pc L S h Q = Cl E d i as h' (fun r h1 => Ev E (d + 1) M pc' L' (zps r S') h1 Q) := by
  rw [Ev_eq hq, hs]
  rfl
theorem Ev_callV {n o : Nat} (hq : zat M pc = some (.invokevirtual n, w)) (ha : w.1.2.1 < 1000) (ho : S[w.1.2.2.1 - 1]? = some (.ref o)) {ci : Nat} (hc : w.2.2[1]? = some ci) (hb : w.1.2.2.1 ≤ S.length) (hr : zroom (S.drop w.1.2.2.1) = true) {as S' : List Value} (has : (S.take w.1.2.2.1).reverse = as) (hS' : S.drop w.1.2.2.1 = S') : Ev E (d + 1) M pc L S h Q = zvc h o ci (Cl E d w.1.2.1 as h (fun r h1 => Ev E (d + 1) M (pc + 3) L (zps r S') h1 Q)) := by
  subst has
  subst hS'
  rw [Ev_eq hq]
  simp only [zs1]
  rw [if_pos ha, ho]
  simp only [zvc]
  have hz : zprim w.1.2.1 w.1.2.2.1 pc L S h = some (.inr (.inl (w.1.2.1, (S.take w.1.2.2.1).reverse, pc + 3, L, S.drop w.1.2.2.1, h))) := by
    unfold zprim
    split
    · omega
    · omega
    · omega
    · omega
    · omega
    · omega
    · rw [if_pos hb]
      unfold zcall
      rw [if_pos hr]
  cases h[o]? with
  | none => rfl
  | some c =>
    rcases c with a | ⟨cc, fs⟩
    · rfl
    · simp only [hc]
      by_cases he : cc = ci
      · subst he
        rw [if_pos rfl, if_pos rfl, hz]
        rfl
      · rw [if_neg (fun q => he (Option.some.inj q).symm), if_neg he]
        rfl
theorem Ev_strlen {n a : Nat} (hq : zat M pc = some (.invokevirtual n, w)) (ha : w.1.2.1 = 1004) (hr : zroom S = true) : Ev E (d + 4) M pc L (.ref a :: S) h Q = zsl a (fun v => Ev E (d + 4) M (pc + 3) L (.int v :: S) h Q) := by
  rw [Ev_eq hq]
  simp only [zs1, ha, zprim, zsl, zn, hr, true_and]
  rw [if_neg (by decide)]
  split <;> rfl
theorem Ev_strchar {n a : Nat} {j : Int32} (hq : zat M pc = some (.invokevirtual n, w)) (ha : w.1.2.1 = 1005) (hr : zroom S = true) : Ev E (d + 4) M pc L (.int j :: .ref a :: S) h Q = zsc a j (fun v => Ev E (d + 4) M (pc + 3) L (.int v :: S) h Q) := by
  rw [Ev_eq hq]
  simp only [zs1, ha, zprim, zsc, zn, hr, true_and]
  rw [if_neg (by decide)]
  split <;> rfl
theorem Ev_sw0 {x : Int32} {df : Nat} {u : Int32} : Ev E d M (zsw x df u []) L S h Q = Ev E d M df L S h Q := rfl
theorem Ev_sw1 {x : Int32} {df t : Nat} {u : Int32} {T : List Nat} : Ev E d M (zsw x df u (t :: T)) L S h Q = if x = u then Ev E d M t L S h Q else Ev E d M (zsw x df (u + 1) T) L S h Q := by
  show Ev E d M (if x = u then t else zsw x df (u + 1) T) L S h Q = _
  split <;> rfl
end EVS
theorem zk_i (x : Int32) : zk (some (.int x)) = some (.int x) := rfl
theorem zk_r (x : Nat) : zk (some (.ref x)) = some (.ref x) := rfl
theorem zk_l (x : Int64) : zk (some (.long x)) = none := rfl
theorem zk_n : zk none = none := rfl
theorem zps_s (v : Value) (S : List Value) : zps (some v) S = v :: S := rfl
theorem zps_n (S : List Value) : zps none S = S := rfl
theorem Cl_eq {E : zE} {d i : Nat} {M : zM} {as : List Value} {h : zH} {Q : Option Value → zH → Prop} (hM : zmt[i]? = some M) {L : zL} (hL : (zfl as).length ≤ M.2.2.1) (he : zent M.2.2.1 as = L) : Cl E d i as h Q = Ev E d M 0 L [] h Q := by
  unfold Cl
  rw [hM]
  simp only [hL, true_and, he]
theorem Cl_run {E : zE} {d i f : Nat} {M : zM} {as : List Value} {h h' : zH} {r : Option Value} {Q : Option Value → zH → Prop} (hM : zmt[i]? = some M) (hL : (zfl as).length ≤ M.2.2.1) (hx : zx E f d M 0 (zent M.2.2.1 as) [] h = some (r, h')) (hQ : Q r h') : Cl E d i as h Q := by
  unfold Cl
  rw [hM]
  exact ⟨hL, f, (r, h'), hx, hQ⟩
