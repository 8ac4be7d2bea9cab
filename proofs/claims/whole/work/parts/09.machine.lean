def zat (M : zM) (pc : Nat) : Option zI := M.2.2.2.2.lookup pc
/-- a local; none where nothing is known of it -/
def zg (L : zL) (i : Nat) : Option Value := match L[i]? with
  | some (some v) => some v
  | _ => none
def zk : Option Value → Option Value
  | some (.long _) => none
  | some (.double _) => none
  | x => x
/-- the place ahead of i no longer holds a long -/
def zcl : Nat → zL → zL
  | _, [] => []
  | 0, x :: L => x :: L
  | 1, x :: L => zk x :: L
  | i + 2, x :: L => x :: zcl (i + 1) L
def zst1 (i : Nat) (v : Value) (L : zL) : Option zL := match L[i]? with
  | none => none
  | some _ => some ((zcl i L).set i (some v))
def zst2 (i : Nat) (v : Value) (L : zL) : Option zL := match L[i + 1]? with
  | none => none
  | some _ => some (((zcl i L).set i (some v)).set (i + 1) none)
def zar (E : zE) (h : zH) (a : Nat) : Option zC := match h[a]? with
  | some c => some c
  | none => if a = 1004 then some (.inl (0, E.1, .inl E.2)) else none
def zz (t : Nat) (n : Nat) : zC := match t with
  | 2 => .inl (2, n, .inr (.inl (fun _ => 0)))
  | t => .inl (t, n, .inl (fun _ => 0))
def zrow (n : Nat) (f : Nat → Option Nat) (t : Nat) : zC := .inl (t, n, .inr (.inr (.inr (.inr f))))
def zsw (x : Int32) (dflt : Nat) : Int32 → List Nat → Nat
  | _, [] => dflt
  | w, t :: T => if x = w then t else zsw x dflt (w + 1) T
def zroom (S : List Value) : Bool := Nat.ble ((S.map fun v => v.category).sum) 8
def zfl (as : List Value) : zL := as.flatMap (fun v => if v.category = 2 then [some v, none] else [some v])
def zent (n : Nat) (as : List Value) : zL := zfl as ++ List.replicate (n - (zfl as).length) none
def zps (r : Option Value) (S : List Value) : List Value := match r with
  | some v => v :: S
  | none => S
/-- what comes behind an instruction: the next state; a call (which method, its arguments, where it goes on); an end -/
abbrev zO : Type := (Nat × zL × List Value × zH) ⊕ ((Nat × List Value × Nat × zL × List Value × zH) ⊕ (Option Value × zH))
def zn (pc : Nat) (L : zL) (S : List Value) (h : zH) : Option zO := some (.inl (pc, L, S, h))
def zcall (i : Nat) (as : List Value) (pc : Nat) (L : zL) (S : List Value) (h : zH) : Option zO := if zroom S = true then some (.inr (.inl (i, as, pc, L, S, h))) else none
def zword (k : Nat) : List Int32 := match k with
  | 0 => [112, 97, 114, 116]
  | 1 => [99, 104, 105, 108, 100]
  | 2 => [115, 99, 101, 110, 101]
  | 3 => [119, 105, 115, 104]
  | _ => []
/-- calls of the library: Math.max, min, abs, Object(), String.length, charAt; and of our own methods, by their numbers -/
def zprim (i b : Nat) (pc : Nat) (L : zL) (S : List Value) (h : zH) : Option zO := match i with
  | 1000 => match S with
    | .int y :: .int x :: S => if zroom S = true then zn (pc + 3) L (.int (if x < y then y else x) :: S) h else none
    | _ => none
  | 1001 => match S with
    | .int y :: .int x :: S => if zroom S = true then zn (pc + 3) L (.int (if y < x then y else x) :: S) h else none
    | _ => none
  | 1002 => match S with
    | .int x :: S => if zroom S = true then zn (pc + 3) L (.int (if x < 0 then 0 - x else x) :: S) h else none
    | _ => none
  | 1003 => match S with
    | .ref _ :: S => if zroom S = true then zn (pc + 3) L S h else none
    | _ => none
  | 1004 => match S with
    | .ref a :: S => if zroom S = true ∧ 1000 ≤ a ∧ a < 1004 then zn (pc + 3) L (.int (Int32.ofNat (zword (a - 1000)).length) :: S) h else none
    | _ => none
  | 1005 => match S with
    | .int j :: .ref a :: S => if zroom S = true ∧ 1000 ≤ a ∧ a < 1004 ∧ ¬ (j < 0 ∨ (zword (a - 1000)).length ≤ j.toNatClampNeg) then zn (pc + 3) L (.int ((zword (a - 1000)).getD j.toNatClampNeg 0) :: S) h else none
    | _ => none
  | i => if b ≤ S.length then zcall i ((S.take b).reverse) (pc + 3) L (S.drop b) h else none
def zs1 (E : zE) (d : Nat) (M : zM) (q : zI) (pc : Nat) (L : zL) (S : List Value) (h : zH) : Option zO := match q.1 with
  | .iconst _ => zn (pc + 1) L (.int q.2.2.1.1 :: S) h
  | .bipush _ => zn (pc + 2) L (.int q.2.2.1.1 :: S) h
  | .sipush _ => zn (pc + 3) L (.int q.2.2.1.1 :: S) h
  | .lconst _ => zn (pc + 1) L (.long q.2.2.1.2 :: S) h
  | .ldc _ => match q.2.1.2.2.1 with
    | 0 => zn (pc + 2) L (.int q.2.2.1.1 :: S) h
    | _ => zn (pc + 2) L (.ref (1000 + q.2.1.2.1) :: S) h
  | .ldc_w _ => zn (pc + 3) L (.int q.2.2.1.1 :: S) h
  | .ldc2_w _ => zn (pc + 3) L (.long q.2.2.1.2 :: S) h
  | .iload_n _ => match zg L q.2.1.2.1 with
    | some (.int x) => zn (pc + 1) L (.int x :: S) h
    | _ => none
  | .iload _ => match zg L q.2.1.2.1 with
    | some (.int x) => zn (pc + 2) L (.int x :: S) h
    | _ => none
  | .lload_n _ => match zg L q.2.1.2.1 with
    | some (.long x) => zn (pc + 1) L (.long x :: S) h
    | _ => none
  | .lload _ => match zg L q.2.1.2.1 with
    | some (.long x) => zn (pc + 2) L (.long x :: S) h
    | _ => none
  | .aload_n _ => match zg L q.2.1.2.1 with
    | some (.ref x) => zn (pc + 1) L (.ref x :: S) h
    | _ => none
  | .aload _ => match zg L q.2.1.2.1 with
    | some (.ref x) => zn (pc + 2) L (.ref x :: S) h
    | _ => none
  | .istore_n _ => match S with
    | .int x :: S => match zst1 q.2.1.2.1 (.int x) L with
      | some L => zn (pc + 1) L S h
      | none => none
    | _ => none
  | .istore _ => match S with
    | .int x :: S => match zst1 q.2.1.2.1 (.int x) L with
      | some L => zn (pc + 2) L S h
      | none => none
    | _ => none
  | .astore_n _ => match S with
    | .ref x :: S => match zst1 q.2.1.2.1 (.ref x) L with
      | some L => zn (pc + 1) L S h
      | none => none
    | _ => none
  | .lstore_n _ => match S with
    | .long x :: S => match zst2 q.2.1.2.1 (.long x) L with
      | some L => zn (pc + 1) L S h
      | none => none
    | _ => none
  | .lstore _ => match S with
    | .long x :: S => match zst2 q.2.1.2.1 (.long x) L with
      | some L => zn (pc + 2) L S h
      | none => none
    | _ => none
  | .iinc _ _ => match zg L q.2.1.2.1 with
    | some (.int x) => match zst1 q.2.1.2.1 (.int (x + q.2.2.1.1)) L with
      | some L => zn (pc + 3) L S h
      | none => none
    | _ => none
  | .iadd => match S with
    | .int y :: .int x :: S => zn (pc + 1) L (.int (x + y) :: S) h
    | _ => none
  | .isub => match S with
    | .int y :: .int x :: S => zn (pc + 1) L (.int (x - y) :: S) h
    | _ => none
  | .imul => match S with
    | .int y :: .int x :: S => zn (pc + 1) L (.int (x * y) :: S) h
    | _ => none
  | .iand => match S with
    | .int y :: .int x :: S => zn (pc + 1) L (.int (x &&& y) :: S) h
    | _ => none
  | .ior => match S with
    | .int y :: .int x :: S => zn (pc + 1) L (.int (x ||| y) :: S) h
    | _ => none
  | .ixor => match S with
    | .int y :: .int x :: S => zn (pc + 1) L (.int (x ^^^ y) :: S) h
    | _ => none
  | .ishl => match S with
    | .int y :: .int x :: S => zn (pc + 1) L (.int (x <<< (y &&& 31)) :: S) h
    | _ => none
  | .ishr => match S with
    | .int y :: .int x :: S => zn (pc + 1) L (.int (x >>> (y &&& 31)) :: S) h
    | _ => none
  | .iushr => match S with
    | .int y :: .int x :: S => zn (pc + 1) L (.int (x.toUInt32 >>> (y.toUInt32 &&& Int32.toUInt32 31)).toInt32 :: S) h
    | _ => none
  | .idiv => match S with
    | .int y :: .int x :: S => if y = 0 then none else zn (pc + 1) L (.int (x / y) :: S) h
    | _ => none
  | .irem => match S with
    | .int y :: .int x :: S => if y = 0 then none else zn (pc + 1) L (.int (x - x / y * y) :: S) h
    | _ => none
  | .ladd => match S with
    | .long y :: .long x :: S => zn (pc + 1) L (.long (x + y) :: S) h
    | _ => none
  | .lmul => match S with
    | .long y :: .long x :: S => zn (pc + 1) L (.long (x * y) :: S) h
    | _ => none
  | .land => match S with
    | .long y :: .long x :: S => zn (pc + 1) L (.long (x &&& y) :: S) h
    | _ => none
  | .lor => match S with
    | .long y :: .long x :: S => zn (pc + 1) L (.long (x ||| y) :: S) h
    | _ => none
  | .ldiv => match S with
    | .long y :: .long x :: S => if y = 0 then none else zn (pc + 1) L (.long (x / y) :: S) h
    | _ => none
  | .lrem => match S with
    | .long y :: .long x :: S => if y = 0 then none else zn (pc + 1) L (.long (x - x / y * y) :: S) h
    | _ => none
  | .lshl => match S with
    | .int y :: .long x :: S => zn (pc + 1) L (.long (x <<< (y.toInt64 &&& 63)) :: S) h
    | _ => none
  | .lshr => match S with
    | .int y :: .long x :: S => zn (pc + 1) L (.long (x >>> (y.toInt64 &&& 63)) :: S) h
    | _ => none
  | .lushr => match S with
    | .int y :: .long x :: S => zn (pc + 1) L (.long (x.toUInt64 >>> (y.toInt64.toUInt64 &&& Int64.toUInt64 63)).toInt64 :: S) h
    | _ => none
  | .lcmp => match S with
    | .long y :: .long x :: S => zn (pc + 1) L (.int (lg_cmp x y) :: S) h
    | _ => none
  | .i2l => match S with
    | .int x :: S => zn (pc + 1) L (.long x.toInt64 :: S) h
    | _ => none
  | .l2i => match S with
    | .long x :: S => zn (pc + 1) L (.int x.toInt32 :: S) h
    | _ => none
  | .dup => match S with
    | .int x :: S => zn (pc + 1) L (.int x :: .int x :: S) h
    | .ref x :: S => zn (pc + 1) L (.ref x :: .ref x :: S) h
    | _ => none
  | .dup2 => match S with
    | .int y :: .int x :: S => zn (pc + 1) L (.int y :: .int x :: .int y :: .int x :: S) h
    | .int y :: .ref x :: S => zn (pc + 1) L (.int y :: .ref x :: .int y :: .ref x :: S) h
    | .long x :: S => zn (pc + 1) L (.long x :: .long x :: S) h
    | _ => none
  | .ifCond .eq _ => match S with
    | .int x :: S => if x = 0 then zn q.2.1.2.1 L S h else zn (pc + 3) L S h
    | _ => none
  | .ifCond .ne _ => match S with
    | .int x :: S => if x = 0 then zn (pc + 3) L S h else zn q.2.1.2.1 L S h
    | _ => none
  | .ifCond .lt _ => match S with
    | .int x :: S => if x < 0 then zn q.2.1.2.1 L S h else zn (pc + 3) L S h
    | _ => none
  | .ifCond .ge _ => match S with
    | .int x :: S => if x < 0 then zn (pc + 3) L S h else zn q.2.1.2.1 L S h
    | _ => none
  | .ifCond .gt _ => match S with
    | .int x :: S => if 0 < x then zn q.2.1.2.1 L S h else zn (pc + 3) L S h
    | _ => none
  | .ifCond .le _ => match S with
    | .int x :: S => if 0 < x then zn (pc + 3) L S h else zn q.2.1.2.1 L S h
    | _ => none
  | .if_icmp .eq _ => match S with
    | .int y :: .int x :: S => if x = y then zn q.2.1.2.1 L S h else zn (pc + 3) L S h
    | _ => none
  | .if_icmp .ne _ => match S with
    | .int y :: .int x :: S => if x = y then zn (pc + 3) L S h else zn q.2.1.2.1 L S h
    | _ => none
  | .if_icmp .lt _ => match S with
    | .int y :: .int x :: S => if x < y then zn q.2.1.2.1 L S h else zn (pc + 3) L S h
    | _ => none
  | .if_icmp .ge _ => match S with
    | .int y :: .int x :: S => if x < y then zn (pc + 3) L S h else zn q.2.1.2.1 L S h
    | _ => none
  | .if_icmp .gt _ => match S with
    | .int y :: .int x :: S => if y < x then zn q.2.1.2.1 L S h else zn (pc + 3) L S h
    | _ => none
  | .if_icmp .le _ => match S with
    | .int y :: .int x :: S => if y < x then zn (pc + 3) L S h else zn q.2.1.2.1 L S h
    | _ => none
  | .goto _ => zn q.2.1.2.1 L S h
  | .tableswitch _ _ _ _ => match S with
    | .int x :: S => zn (zsw x q.2.1.2.1 q.2.2.1.1 q.2.2.2) L S h
    | _ => none
  | .getfield _ => match S with
    | .ref o :: S => match h[o]? with
      | some (.inr (ci, fs)) => if ci = q.2.1.2.1 then (match fs[q.2.1.2.2.1]? with
        | some v => zn (pc + 3) L (v :: S) h
        | none => none) else none
      | _ => none
    | _ => none
  | .putfield _ => match S with
    | v :: .ref o :: S => match h[o]? with
      | some (.inr (ci, fs)) => if ci = q.2.1.2.1 ∧ q.2.1.2.2.1 < fs.length ∧ zfv (zTy q.2.1.2.1 q.2.1.2.2.1) v = true then zn (pc + 3) L S (h.set o (.inr (ci, fs.set q.2.1.2.2.1 v))) else none
      | _ => none
    | _ => none
  | .iaload => match S with
    | .int i :: .ref o :: S => match zar E h o with
      | some (.inl (0, n, .inl f)) => if i < 0 ∨ n ≤ i.toNatClampNeg then none else zn (pc + 1) L (.int (f i.toNatClampNeg) :: S) h
      | _ => none
    | _ => none
  | .baload => match S with
    | .int i :: .ref o :: S => match h[o]? with
      | some (.inl (1, n, .inl f)) => if i < 0 ∨ n ≤ i.toNatClampNeg then none else zn (pc + 1) L (.int (f i.toNatClampNeg) :: S) h
      | _ => none
    | _ => none
  | .laload => match S with
    | .int i :: .ref o :: S => match h[o]? with
      | some (.inl (2, n, .inr (.inl f))) => if i < 0 ∨ n ≤ i.toNatClampNeg then none else zn (pc + 1) L (.long (f i.toNatClampNeg) :: S) h
      | _ => none
    | _ => none
  | .aaload => match S with
    | .int i :: .ref o :: S => match h[o]? with
      | some (.inl (t, n, .inr (.inr (.inr (.inr f))))) => if i < 0 ∨ n ≤ i.toNatClampNeg ∨ (t ≠ 3 ∧ t ≠ 4) then none else (match f i.toNatClampNeg with
        | some r => zn (pc + 1) L (.ref r :: S) h
        | none => none)
      | _ => none
    | _ => none
  | .iastore => match S with
    | .int x :: .int i :: .ref o :: S => match h[o]? with
      | some (.inl (0, n, .inl f)) => if i < 0 ∨ n ≤ i.toNatClampNeg then none else zn (pc + 1) L S (h.set o (.inl (0, n, .inl (upd f i.toNatClampNeg x))))
      | _ => none
    | _ => none
  | .bastore => match S with
    | .int x :: .int i :: .ref o :: S => match h[o]? with
      | some (.inl (1, n, .inl f)) => if i < 0 ∨ n ≤ i.toNatClampNeg then none else zn (pc + 1) L S (h.set o (.inl (1, n, .inl (upd f i.toNatClampNeg (vp_nar .boolean x)))))
      | _ => none
    | _ => none
  | .lastore => match S with
    | .long x :: .int i :: .ref o :: S => match h[o]? with
      | some (.inl (2, n, .inr (.inl f))) => if i < 0 ∨ n ≤ i.toNatClampNeg then none else zn (pc + 1) L S (h.set o (.inl (2, n, .inr (.inl (vp_updL f i.toNatClampNeg x)))))
      | _ => none
    | _ => none
  | .aastore => match S with
    | .ref v :: .int i :: .ref o :: S => match h[o]?, h[v]? with
      | some (.inl (3, n, .inr (.inr (.inr (.inr f))))), some (.inr (7, _)) => if i < 0 ∨ n ≤ i.toNatClampNeg then none else zn (pc + 1) L S (h.set o (zrow n (va_up f i.toNatClampNeg (some v)) 3))
      | _, _ => none
    | _ => none
  | .arraylength => match S with
    | .ref o :: S => match zar E h o with
      | some (.inl (t, n, f)) => if t < 5 then zn (pc + 1) L (.int (Int32.ofNat n) :: S) h else none
      | _ => none
    | _ => none
  | .newarray _ => match S with
    | .int n :: S => if n < 0 ∨ 10000 < n.toNatClampNeg ∨ 1000 ≤ h.length then none else zn (pc + 2) L (.ref h.length :: S) (h ++ [zz q.2.1.2.1 n.toNatClampNeg])
    | _ => none
  | .anewarray _ => match S with
    | .int n :: S => if n < 0 ∨ 10000 < n.toNatClampNeg ∨ 1000 ≤ h.length then none else zn (pc + 3) L (.ref h.length :: S) (h ++ [zrow n.toNatClampNeg (fun _ => none) 3])
    | _ => none
  | .multianewarray _ _ => match S with
    | .int k :: .int n :: S => if n < 0 ∨ k < 0 ∨ 100 < n.toNatClampNeg ∨ 100 < k.toNatClampNeg ∨ 800 ≤ h.length then none else
        zn (pc + 4) L (.ref h.length :: S) (h ++ (zrow n.toNatClampNeg (fun i => if i < n.toNatClampNeg then some (h.length + 1 + i) else none) 4 :: List.replicate n.toNatClampNeg (zz 0 k.toNatClampNeg)))
    | _ => none
  | .new _ => if 1000 ≤ h.length then none else zn (pc + 3) L (.ref h.length :: S) (h ++ [.inr (q.2.1.2.1, zfs q.2.1.2.1)])
  | .invokestatic _ => match d with
    | 0 => none
    | _ + 1 => zprim q.2.1.2.1 q.2.1.2.2.1 pc L S h
  | .invokespecial _ => match d with
    | 0 => none
    | _ + 1 => if q.2.1.2.1 < 1000 then (match S[q.2.1.2.2.1 - 1]? with
      | some (.ref _) => zprim q.2.1.2.1 q.2.1.2.2.1 pc L S h
      | _ => none) else zprim q.2.1.2.1 q.2.1.2.2.1 pc L S h
  | .invokevirtual _ => match d with
    | 0 => none
    | _ + 1 => if q.2.1.2.1 < 1000 then (match S[q.2.1.2.2.1 - 1]? with
      | some (.ref o) => match h[o]? with
        | some (.inr (ci, _)) => if q.2.2.2[1]? = some ci then zprim q.2.1.2.1 q.2.1.2.2.1 pc L S h else none
        | _ => none
      | _ => none) else (match d with
      | _ + 4 => zprim q.2.1.2.1 q.2.1.2.2.1 pc L S h
      | _ => none)
  | .ireturn => match S with
    | [.int v] => match M.2.2.2.1 with
      | some .int => some (.inr (.inr (some (.int v), h)))
      | some .boolean => if v = 0 ∨ v = 1 then some (.inr (.inr (some (.int v), h))) else none
      | _ => none
    | _ => none
  | .lreturn => match S with
    | [.long v] => match M.2.2.2.1 with
      | some .long => some (.inr (.inr (some (.long v), h)))
      | _ => none
    | _ => none
  | .return_ => match S with
    | [] => match M.2.2.2.1 with
      | none => some (.inr (.inr (none, h)))
      | _ => none
    | _ => none
  | _ => none
/-- runs, by fuel f, at most d calls deep -/
def zx (E : zE) : Nat → Nat → zM → Nat → zL → List Value → zH → Option (Option Value × zH)
  | 0, _, _, _, _, _, _ => none
  | f + 1, d, M, pc, L, S, h => match zat M pc with
    | none => none
    | some q => match zs1 E d M q pc L S h with
      | none => none
      | some (.inl (pc', L', S', h')) => zx E f d M pc' L' S' h'
      | some (.inr (.inr r)) => some r
      | some (.inr (.inl (i, as, pc', L', S', h'))) => match d with
        | 0 => none
        | d' + 1 => match zmt[i]? with
          | none => none
          | some M' => if (zfl as).length ≤ M'.2.2.1 then (match zx E f d' M' 0 (zent M'.2.2.1 as) [] h' with
            | none => none
            | some (r, h1) => zx E f (d' + 1) M pc' L' (zps r S') h1) else none
/-- the run from here ends, with Q of its answer and heap -/
def Ev (E : zE) (d : Nat) (M : zM) (pc : Nat) (L : zL) (S : List Value) (h : zH) (Q : Option Value → zH → Prop) : Prop := ∃ (f : Nat) (r : Option Value × zH), zx E f d M pc L S h = some r ∧ Q r.1 r.2
/-- a call of method i with these arguments -/
def Cl (E : zE) (d i : Nat) (as : List Value) (h : zH) (Q : Option Value → zH → Prop) : Prop := match zmt[i]? with
  | none => False
  | some M => (zfl as).length ≤ M.2.2.1 ∧ Ev E d M 0 (zent M.2.2.1 as) [] h Q
theorem zx_mono {E : zE} : ∀ (f d : Nat) (M : zM) (pc : Nat) (L : zL) (S : List Value) (h : zH) (r : Option Value × zH), zx E f d M pc L S h = some r → zx E (f + 1) d M pc L S h = some r := by
  intro f
  induction f with
  | zero => intro d M pc L S h r hr; cases hr
  | succ f ih =>
    intro d M pc L S h r hr
    rw [zx] at hr ⊢
    cases hq : zat M pc with
    | none => rw [hq] at hr; cases hr
    | some q =>
      rw [hq] at hr
      simp only at hr ⊢
      cases ho : zs1 E d M q pc L S h with
      | none => rw [ho] at hr; cases hr
      | some o =>
        rw [ho] at hr
        rcases o with ⟨pc', L', S', h'⟩ | ⟨i, as, pc', L', S', h'⟩ | ⟨r1, h1⟩
        · exact ih _ _ _ _ _ _ _ hr
        · simp only at hr ⊢
          cases d with
          | zero => cases hr
          | succ d' =>
            simp only at hr ⊢
            cases hM : zmt[i]? with
            | none => rw [hM] at hr; cases hr
            | some M' =>
              rw [hM] at hr
              simp only at hr ⊢
              by_cases hl : (zfl as).length ≤ M'.2.2.1
              · rw [if_pos hl] at hr ⊢
                cases hc : zx E f d' M' 0 (zent M'.2.2.1 as) [] h' with
                | none => rw [hc] at hr; cases hr
                | some r1 =>
                  rw [hc] at hr
                  rw [ih _ _ _ _ _ _ _ hc]
                  exact ih _ _ _ _ _ _ _ hr
              · rw [if_neg hl] at hr
                cases hr
        · exact hr
theorem zx_le {E : zE} {f g d : Nat} {M : zM} {pc : Nat} {L : zL} {S : List Value} {h : zH} {r : Option Value × zH} (hr : zx E f d M pc L S h = some r) (hg : f ≤ g) : zx E g d M pc L S h = some r := by
  induction hg with
  | refl => exact hr
  | step _ ih => exact zx_mono _ _ _ _ _ _ _ _ ih
/-- what an instruction's outcome asks for -/
def zaft (E : zE) (d : Nat) (M : zM) (Q : Option Value → zH → Prop) (o : Option zO) : Prop := match o with
  | none => False
  | some (.inl (pc, L, S, h)) => Ev E d M pc L S h Q
  | some (.inr (.inr (r, h))) => Q r h
  | some (.inr (.inl (i, as, pc, L, S, h))) => match d with
    | 0 => False
    | d' + 1 => Cl E d' i as h (fun r h1 => Ev E (d' + 1) M pc L (zps r S) h1 Q)
theorem Ev_eq {E : zE} {d : Nat} {M : zM} {pc : Nat} {q : zI} (hq : zat M pc = some q) (L : zL) (S : List Value) (h : zH) (Q : Option Value → zH → Prop) : Ev E d M pc L S h Q = zaft E d M Q (zs1 E d M q pc L S h) := by
  apply propext
  unfold zaft
  constructor
  · rintro ⟨f, r, hr, hQ⟩
    cases f with
    | zero => cases hr
    | succ f =>
      rw [zx, hq] at hr
      simp only at hr
      cases ho : zs1 E d M q pc L S h with
      | none => rw [ho] at hr; cases hr
      | some o =>
        rw [ho] at hr
        rcases o with ⟨pc', L', S', h'⟩ | ⟨i, as, pc', L', S', h'⟩ | ⟨r1, h1⟩
        · exact ⟨f, r, hr, hQ⟩
        · simp only at hr ⊢
          cases d with
          | zero => cases hr
          | succ d' =>
            simp only at hr ⊢
            unfold Cl
            cases hM : zmt[i]? with
            | none => rw [hM] at hr; cases hr
            | some M' =>
              rw [hM] at hr
              simp only at hr ⊢
              by_cases hl : (zfl as).length ≤ M'.2.2.1
              · rw [if_pos hl] at hr
                cases hc : zx E f d' M' 0 (zent M'.2.2.1 as) [] h' with
                | none => rw [hc] at hr; cases hr
                | some r1 =>
                  rw [hc] at hr
                  exact ⟨hl, f, r1, hc, f, r, hr, hQ⟩
              · rw [if_neg hl] at hr
                cases hr
        · cases hr
          exact hQ
  · intro hz
    cases ho : zs1 E d M q pc L S h with
    | none => rw [ho] at hz; exact hz.elim
    | some o =>
      rw [ho] at hz
      rcases o with ⟨pc', L', S', h'⟩ | ⟨i, as, pc', L', S', h'⟩ | ⟨r1, h1⟩
      · obtain ⟨f, r, hr, hQ⟩ := hz
        exact ⟨f + 1, r, by rw [zx, hq]; simp only [ho]; exact hr, hQ⟩
      · simp only at hz
        cases d with
        | zero => exact hz.elim
        | succ d' =>
          simp only at hz
          unfold Cl at hz
          cases hM : zmt[i]? with
          | none => rw [hM] at hz; exact hz.elim
          | some M' =>
            rw [hM] at hz
            obtain ⟨hl, f1, r1, hc, f2, r2, hr, hQ⟩ := hz
            refine ⟨max f1 f2 + 1, r2, ?_, hQ⟩
            rw [zx, hq]
            simp only [ho, hM]
            rw [if_pos hl, zx_le hc (Nat.le_max_left f1 f2)]
            exact zx_le hr (Nat.le_max_right f1 f2)
      · exact ⟨1, (r1, h1), by rw [zx, hq]; simp only [ho], hz⟩
