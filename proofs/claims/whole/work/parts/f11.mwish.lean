/-! READ: wishes, in the reference -/
section F11
variable {tx : Nat → Int32} {nl : Nat}
def ckB (f : Nat → Nat → Int32) (a b : Int32) : Bool := decide (f 129 6 = 2) && (!decide (f 129 7 = a) && !decide (f 129 7 = b))
theorem m_wi59 (E : zE) (d : Nat) (f : Nat → Nat → Int32) (t : (Nat → Nat → Int64) × Nat) (a b : Int32) (x1 x4 x5 x6 x7 : Option Value) (Q : Option Value → zH → Prop) : Ev E (d + 3) zm_X9_readWish 59 [some (.ref 129), x1, some (.int a), some (.int b), x4, x5, x6, x7] [] (HP (f, t)) Q = Cl E (d + 2) 139 [.ref 129, .int (bI (ckB f a b))] (HP (f, t)) (fun r h1 => Ev E (d + 3) zm_X9_readWish 92 [some (.ref 129), x1, some (.int a), some (.int b), x4, x5, x6, x7] (zps r []) h1 Q) := by
  unfold ckB
  by_cases h1 : f 129 6 = 2
  · by_cases h2 : f 129 7 = a
    · have h1' : (f 129 6 = 2) = True := eq_true h1
      have h2' : (f 129 7 = a) = True := eq_true h2
      rw [decide_eq_true h1, decide_eq_true h2, e_X9_readWish_59]
      simp only [↓e_X9_readWish_4, ↓e_X9_readWish_10, ↓e_X9_readWish_13, ↓e_X9_readWish_18, ↓e_X9_readWish_36, ↓e_X9_readWish_39, ↓e_X9_readWish_44, ↓e_X9_readWish_51, ↓e_X9_readWish_55, ↓e_X9_readWish_56, ↓e_X9_readWish_64, ↓e_X9_readWish_68, ↓e_X9_readWish_72, ↓e_X9_readWish_76, ↓e_X9_readWish_80, ↓e_X9_readWish_84, ↓e_X9_readWish_88, ↓e_X9_readWish_89, ↓e_X9_readWish_96, ↓e_X9_readWish_99, ↓e_X9_readWish_105, ↓e_X9_readWish_108, ↓e_X9_readWish_113, ↓e_X9_readWish_116, ↓e_X9_readWish_117, ↓e_X9_readWish_124, ↓e_X9_readWish_129, ↓e_X9_readWish_130, ↓e_X9_readWish_137, ↓e_X9_readWish_142, ↓e_X9_readWish_143, ↓e_X9_readWish_150, ↓e_X9_readWish_155, ↓e_X9_readWish_157, ↓e_X9_readWish_166, ↓e_X9_readWish_170, ↓e_X9_readWish_174, ↓e_X9_readWish_175, ↓e_X9_readWish_180, ↓e_X9_readWish_184, ↓e_X9_readWish_187, ↓e_X9_readWish_191, ↓e_X9_readWish_199, ↓e_X9_readWish_203, ↓e_X9_readWish_213, ↓e_X9_readWish_217, ↓e_X9_readWish_228, g9 o9_129, v9 o9_129, h1', h2', Bool.not_true, Bool.false_and, Bool.and_false, bI_f, zk_i, zk_r, zk_n, ↓reduceIte]
    · by_cases h3 : f 129 7 = b
      · have h1' : (f 129 6 = 2) = True := eq_true h1
        have h3' : (f 129 7 = b) = True := eq_true h3
        rw [decide_eq_true h1, decide_eq_false h2, decide_eq_true h3, e_X9_readWish_59]
        simp only [↓e_X9_readWish_4, ↓e_X9_readWish_10, ↓e_X9_readWish_13, ↓e_X9_readWish_18, ↓e_X9_readWish_36, ↓e_X9_readWish_39, ↓e_X9_readWish_44, ↓e_X9_readWish_51, ↓e_X9_readWish_55, ↓e_X9_readWish_56, ↓e_X9_readWish_64, ↓e_X9_readWish_68, ↓e_X9_readWish_72, ↓e_X9_readWish_76, ↓e_X9_readWish_80, ↓e_X9_readWish_84, ↓e_X9_readWish_88, ↓e_X9_readWish_89, ↓e_X9_readWish_96, ↓e_X9_readWish_99, ↓e_X9_readWish_105, ↓e_X9_readWish_108, ↓e_X9_readWish_113, ↓e_X9_readWish_116, ↓e_X9_readWish_117, ↓e_X9_readWish_124, ↓e_X9_readWish_129, ↓e_X9_readWish_130, ↓e_X9_readWish_137, ↓e_X9_readWish_142, ↓e_X9_readWish_143, ↓e_X9_readWish_150, ↓e_X9_readWish_155, ↓e_X9_readWish_157, ↓e_X9_readWish_166, ↓e_X9_readWish_170, ↓e_X9_readWish_174, ↓e_X9_readWish_175, ↓e_X9_readWish_180, ↓e_X9_readWish_184, ↓e_X9_readWish_187, ↓e_X9_readWish_191, ↓e_X9_readWish_199, ↓e_X9_readWish_203, ↓e_X9_readWish_213, ↓e_X9_readWish_217, ↓e_X9_readWish_228, g9 o9_129, v9 o9_129, h1', h2, h3', Bool.not_true, Bool.and_false, bI_f, zk_i, zk_r, zk_n, ↓reduceIte]
      · have h1' : (f 129 6 = 2) = True := eq_true h1
        rw [decide_eq_true h1, decide_eq_false h2, decide_eq_false h3, e_X9_readWish_59]
        simp only [↓e_X9_readWish_4, ↓e_X9_readWish_10, ↓e_X9_readWish_13, ↓e_X9_readWish_18, ↓e_X9_readWish_36, ↓e_X9_readWish_39, ↓e_X9_readWish_44, ↓e_X9_readWish_51, ↓e_X9_readWish_55, ↓e_X9_readWish_56, ↓e_X9_readWish_64, ↓e_X9_readWish_68, ↓e_X9_readWish_72, ↓e_X9_readWish_76, ↓e_X9_readWish_80, ↓e_X9_readWish_84, ↓e_X9_readWish_88, ↓e_X9_readWish_89, ↓e_X9_readWish_96, ↓e_X9_readWish_99, ↓e_X9_readWish_105, ↓e_X9_readWish_108, ↓e_X9_readWish_113, ↓e_X9_readWish_116, ↓e_X9_readWish_117, ↓e_X9_readWish_124, ↓e_X9_readWish_129, ↓e_X9_readWish_130, ↓e_X9_readWish_137, ↓e_X9_readWish_142, ↓e_X9_readWish_143, ↓e_X9_readWish_150, ↓e_X9_readWish_155, ↓e_X9_readWish_157, ↓e_X9_readWish_166, ↓e_X9_readWish_170, ↓e_X9_readWish_174, ↓e_X9_readWish_175, ↓e_X9_readWish_180, ↓e_X9_readWish_184, ↓e_X9_readWish_187, ↓e_X9_readWish_191, ↓e_X9_readWish_199, ↓e_X9_readWish_203, ↓e_X9_readWish_213, ↓e_X9_readWish_217, ↓e_X9_readWish_228, g9 o9_129, v9 o9_129, h1', h2, h3, Bool.not_false, Bool.and_true, bI_t, zk_i, zk_r, zk_n, ↓reduceIte]
  · rw [decide_eq_false h1, e_X9_readWish_59]
    simp only [↓e_X9_readWish_4, ↓e_X9_readWish_10, ↓e_X9_readWish_13, ↓e_X9_readWish_18, ↓e_X9_readWish_36, ↓e_X9_readWish_39, ↓e_X9_readWish_44, ↓e_X9_readWish_51, ↓e_X9_readWish_55, ↓e_X9_readWish_56, ↓e_X9_readWish_64, ↓e_X9_readWish_68, ↓e_X9_readWish_72, ↓e_X9_readWish_76, ↓e_X9_readWish_80, ↓e_X9_readWish_84, ↓e_X9_readWish_88, ↓e_X9_readWish_89, ↓e_X9_readWish_96, ↓e_X9_readWish_99, ↓e_X9_readWish_105, ↓e_X9_readWish_108, ↓e_X9_readWish_113, ↓e_X9_readWish_116, ↓e_X9_readWish_117, ↓e_X9_readWish_124, ↓e_X9_readWish_129, ↓e_X9_readWish_130, ↓e_X9_readWish_137, ↓e_X9_readWish_142, ↓e_X9_readWish_143, ↓e_X9_readWish_150, ↓e_X9_readWish_155, ↓e_X9_readWish_157, ↓e_X9_readWish_166, ↓e_X9_readWish_170, ↓e_X9_readWish_174, ↓e_X9_readWish_175, ↓e_X9_readWish_180, ↓e_X9_readWish_184, ↓e_X9_readWish_187, ↓e_X9_readWish_191, ↓e_X9_readWish_199, ↓e_X9_readWish_203, ↓e_X9_readWish_213, ↓e_X9_readWish_217, ↓e_X9_readWish_228, g9 o9_129, v9 o9_129, h1, Bool.false_and, bI_f, zk_i, zk_r, zk_n, ↓reduceIte]
/-- after a fault the loop ends, and nothing is written -/
theorem m_wiB (E : zE) (d : Nat) {f : Nat → Nat → Int32} {t : (Nat → Nat → Int64) × Nat} (h8 : ¬ f 129 8 = -1) (x1 x2 x3 x4 x5 x6 x7 : Option Value) (Q : Option Value → zH → Prop) : Ev E (d + 3) zm_X9_readWish 32 [some (.ref 129), x1, x2, x3, x4, x5, x6, x7] [] (HP (f, t)) Q = Q none (HP (f, t)) := by
  have g := m_isGood E (d + 2) (f, t)
  dsimp only at g
  rw [decide_eq_false h8] at g
  rw [e_X9_readWish_32]
  simp only [↓e_X9_readWish_4, ↓e_X9_readWish_10, ↓e_X9_readWish_13, ↓e_X9_readWish_18, ↓e_X9_readWish_36, ↓e_X9_readWish_39, ↓e_X9_readWish_44, ↓e_X9_readWish_51, ↓e_X9_readWish_55, ↓e_X9_readWish_56, ↓e_X9_readWish_64, ↓e_X9_readWish_68, ↓e_X9_readWish_72, ↓e_X9_readWish_76, ↓e_X9_readWish_80, ↓e_X9_readWish_84, ↓e_X9_readWish_88, ↓e_X9_readWish_89, ↓e_X9_readWish_96, ↓e_X9_readWish_99, ↓e_X9_readWish_105, ↓e_X9_readWish_108, ↓e_X9_readWish_113, ↓e_X9_readWish_116, ↓e_X9_readWish_117, ↓e_X9_readWish_124, ↓e_X9_readWish_129, ↓e_X9_readWish_130, ↓e_X9_readWish_137, ↓e_X9_readWish_142, ↓e_X9_readWish_143, ↓e_X9_readWish_150, ↓e_X9_readWish_155, ↓e_X9_readWish_157, ↓e_X9_readWish_166, ↓e_X9_readWish_170, ↓e_X9_readWish_174, ↓e_X9_readWish_175, ↓e_X9_readWish_180, ↓e_X9_readWish_184, ↓e_X9_readWish_187, ↓e_X9_readWish_191, ↓e_X9_readWish_199, ↓e_X9_readWish_203, ↓e_X9_readWish_213, ↓e_X9_readWish_217, ↓e_X9_readWish_228, v9 o9_129, g, zps_s, bI_f, zk_i, zk_r, zk_n, ↓reduceIte]
/-- a number taken as the wish with number c -/
theorem m_wi117 (E : zE) (d : Nat) (f : Nat → Nat → Int32) (t : (Nat → Nat → Int64) × Nat) (w : Nat → Int32) {c : Nat} (hc : c < 3) (p : Int32) (x1 : Int32) (on : Int32) (y : Option Value) (Q : Option Value → zH → Prop) : Ev E (d + 3) zm_X9_readWish 117 [some (.ref 129), some (.int x1), some (.int (w 0)), some (.int (w 1)), some (.int (w 2)), some (.int on), some (.int (nI c)), y] [.int p] (HP (f, t)) Q = Ev E (d + 3) zm_X9_readWish 32 [some (.ref 129), some (.int x1), some (.int (upd w c p 0)), some (.int (upd w c p 1)), some (.int (upd w c p 2)), some (.int (bI (decide (f 129 6 = 2)))), some (.int (nI (c + 1))), some (.int p)] [] (HP (f, t)) Q := by
  rcases (by omega : c = 0 ∨ c = 1 ∨ c = 2) with e | e | e
  · subst e
    rw [uS, uN (by decide), uN (by decide)]
    have c0 : (nI 0 = 0) = True := by decide
    have c1 : (nI 0 = 1) = False := by decide
    have c2 : (nI 0 = 2) = False := by decide
    by_cases q : f 129 6 = 2
    · have q' : (f 129 6 = 2) = True := eq_true q
      rw [decide_eq_true q, e_X9_readWish_117]
      simp only [↓e_X9_readWish_4, ↓e_X9_readWish_10, ↓e_X9_readWish_13, ↓e_X9_readWish_18, ↓e_X9_readWish_36, ↓e_X9_readWish_39, ↓e_X9_readWish_44, ↓e_X9_readWish_51, ↓e_X9_readWish_55, ↓e_X9_readWish_56, ↓e_X9_readWish_64, ↓e_X9_readWish_68, ↓e_X9_readWish_72, ↓e_X9_readWish_76, ↓e_X9_readWish_80, ↓e_X9_readWish_84, ↓e_X9_readWish_88, ↓e_X9_readWish_89, ↓e_X9_readWish_96, ↓e_X9_readWish_99, ↓e_X9_readWish_105, ↓e_X9_readWish_108, ↓e_X9_readWish_113, ↓e_X9_readWish_116, ↓e_X9_readWish_124, ↓e_X9_readWish_129, ↓e_X9_readWish_130, ↓e_X9_readWish_137, ↓e_X9_readWish_142, ↓e_X9_readWish_143, ↓e_X9_readWish_150, ↓e_X9_readWish_155, ↓e_X9_readWish_157, ↓e_X9_readWish_166, ↓e_X9_readWish_170, ↓e_X9_readWish_174, ↓e_X9_readWish_175, ↓e_X9_readWish_180, ↓e_X9_readWish_184, ↓e_X9_readWish_187, ↓e_X9_readWish_191, ↓e_X9_readWish_199, ↓e_X9_readWish_203, ↓e_X9_readWish_213, ↓e_X9_readWish_217, ↓e_X9_readWish_228, g9 o9_129, c0, c1, c2, q', ix_1, bI_t, zk_i, zk_r, zk_n, ↓reduceIte]
    · rw [decide_eq_false q, e_X9_readWish_117]
      simp only [↓e_X9_readWish_4, ↓e_X9_readWish_10, ↓e_X9_readWish_13, ↓e_X9_readWish_18, ↓e_X9_readWish_36, ↓e_X9_readWish_39, ↓e_X9_readWish_44, ↓e_X9_readWish_51, ↓e_X9_readWish_55, ↓e_X9_readWish_56, ↓e_X9_readWish_64, ↓e_X9_readWish_68, ↓e_X9_readWish_72, ↓e_X9_readWish_76, ↓e_X9_readWish_80, ↓e_X9_readWish_84, ↓e_X9_readWish_88, ↓e_X9_readWish_89, ↓e_X9_readWish_96, ↓e_X9_readWish_99, ↓e_X9_readWish_105, ↓e_X9_readWish_108, ↓e_X9_readWish_113, ↓e_X9_readWish_116, ↓e_X9_readWish_124, ↓e_X9_readWish_129, ↓e_X9_readWish_130, ↓e_X9_readWish_137, ↓e_X9_readWish_142, ↓e_X9_readWish_143, ↓e_X9_readWish_150, ↓e_X9_readWish_155, ↓e_X9_readWish_157, ↓e_X9_readWish_166, ↓e_X9_readWish_170, ↓e_X9_readWish_174, ↓e_X9_readWish_175, ↓e_X9_readWish_180, ↓e_X9_readWish_184, ↓e_X9_readWish_187, ↓e_X9_readWish_191, ↓e_X9_readWish_199, ↓e_X9_readWish_203, ↓e_X9_readWish_213, ↓e_X9_readWish_217, ↓e_X9_readWish_228, g9 o9_129, c0, c1, c2, q, ix_1, bI_f, zk_i, zk_r, zk_n, ↓reduceIte]
  · subst e
    rw [uS, uN (by decide), uN (by decide)]
    have c0 : (nI 1 = 0) = False := by decide
    have c1 : (nI 1 = 1) = True := by decide
    have c2 : (nI 1 = 2) = False := by decide
    by_cases q : f 129 6 = 2
    · have q' : (f 129 6 = 2) = True := eq_true q
      rw [decide_eq_true q, e_X9_readWish_117]
      simp only [↓e_X9_readWish_4, ↓e_X9_readWish_10, ↓e_X9_readWish_13, ↓e_X9_readWish_18, ↓e_X9_readWish_36, ↓e_X9_readWish_39, ↓e_X9_readWish_44, ↓e_X9_readWish_51, ↓e_X9_readWish_55, ↓e_X9_readWish_56, ↓e_X9_readWish_64, ↓e_X9_readWish_68, ↓e_X9_readWish_72, ↓e_X9_readWish_76, ↓e_X9_readWish_80, ↓e_X9_readWish_84, ↓e_X9_readWish_88, ↓e_X9_readWish_89, ↓e_X9_readWish_96, ↓e_X9_readWish_99, ↓e_X9_readWish_105, ↓e_X9_readWish_108, ↓e_X9_readWish_113, ↓e_X9_readWish_116, ↓e_X9_readWish_124, ↓e_X9_readWish_129, ↓e_X9_readWish_130, ↓e_X9_readWish_137, ↓e_X9_readWish_142, ↓e_X9_readWish_143, ↓e_X9_readWish_150, ↓e_X9_readWish_155, ↓e_X9_readWish_157, ↓e_X9_readWish_166, ↓e_X9_readWish_170, ↓e_X9_readWish_174, ↓e_X9_readWish_175, ↓e_X9_readWish_180, ↓e_X9_readWish_184, ↓e_X9_readWish_187, ↓e_X9_readWish_191, ↓e_X9_readWish_199, ↓e_X9_readWish_203, ↓e_X9_readWish_213, ↓e_X9_readWish_217, ↓e_X9_readWish_228, g9 o9_129, c0, c1, c2, q', ix_1, bI_t, zk_i, zk_r, zk_n, ↓reduceIte]
    · rw [decide_eq_false q, e_X9_readWish_117]
      simp only [↓e_X9_readWish_4, ↓e_X9_readWish_10, ↓e_X9_readWish_13, ↓e_X9_readWish_18, ↓e_X9_readWish_36, ↓e_X9_readWish_39, ↓e_X9_readWish_44, ↓e_X9_readWish_51, ↓e_X9_readWish_55, ↓e_X9_readWish_56, ↓e_X9_readWish_64, ↓e_X9_readWish_68, ↓e_X9_readWish_72, ↓e_X9_readWish_76, ↓e_X9_readWish_80, ↓e_X9_readWish_84, ↓e_X9_readWish_88, ↓e_X9_readWish_89, ↓e_X9_readWish_96, ↓e_X9_readWish_99, ↓e_X9_readWish_105, ↓e_X9_readWish_108, ↓e_X9_readWish_113, ↓e_X9_readWish_116, ↓e_X9_readWish_124, ↓e_X9_readWish_129, ↓e_X9_readWish_130, ↓e_X9_readWish_137, ↓e_X9_readWish_142, ↓e_X9_readWish_143, ↓e_X9_readWish_150, ↓e_X9_readWish_155, ↓e_X9_readWish_157, ↓e_X9_readWish_166, ↓e_X9_readWish_170, ↓e_X9_readWish_174, ↓e_X9_readWish_175, ↓e_X9_readWish_180, ↓e_X9_readWish_184, ↓e_X9_readWish_187, ↓e_X9_readWish_191, ↓e_X9_readWish_199, ↓e_X9_readWish_203, ↓e_X9_readWish_213, ↓e_X9_readWish_217, ↓e_X9_readWish_228, g9 o9_129, c0, c1, c2, q, ix_1, bI_f, zk_i, zk_r, zk_n, ↓reduceIte]
  · subst e
    rw [uS, uN (by decide), uN (by decide)]
    have c0 : (nI 2 = 0) = False := by decide
    have c1 : (nI 2 = 1) = False := by decide
    have c2 : (nI 2 = 2) = True := by decide
    by_cases q : f 129 6 = 2
    · have q' : (f 129 6 = 2) = True := eq_true q
      rw [decide_eq_true q, e_X9_readWish_117]
      simp only [↓e_X9_readWish_4, ↓e_X9_readWish_10, ↓e_X9_readWish_13, ↓e_X9_readWish_18, ↓e_X9_readWish_36, ↓e_X9_readWish_39, ↓e_X9_readWish_44, ↓e_X9_readWish_51, ↓e_X9_readWish_55, ↓e_X9_readWish_56, ↓e_X9_readWish_64, ↓e_X9_readWish_68, ↓e_X9_readWish_72, ↓e_X9_readWish_76, ↓e_X9_readWish_80, ↓e_X9_readWish_84, ↓e_X9_readWish_88, ↓e_X9_readWish_89, ↓e_X9_readWish_96, ↓e_X9_readWish_99, ↓e_X9_readWish_105, ↓e_X9_readWish_108, ↓e_X9_readWish_113, ↓e_X9_readWish_116, ↓e_X9_readWish_124, ↓e_X9_readWish_129, ↓e_X9_readWish_130, ↓e_X9_readWish_137, ↓e_X9_readWish_142, ↓e_X9_readWish_143, ↓e_X9_readWish_150, ↓e_X9_readWish_155, ↓e_X9_readWish_157, ↓e_X9_readWish_166, ↓e_X9_readWish_170, ↓e_X9_readWish_174, ↓e_X9_readWish_175, ↓e_X9_readWish_180, ↓e_X9_readWish_184, ↓e_X9_readWish_187, ↓e_X9_readWish_191, ↓e_X9_readWish_199, ↓e_X9_readWish_203, ↓e_X9_readWish_213, ↓e_X9_readWish_217, ↓e_X9_readWish_228, g9 o9_129, c0, c1, c2, q', ix_1, bI_t, zk_i, zk_r, zk_n, ↓reduceIte]
    · rw [decide_eq_false q, e_X9_readWish_117]
      simp only [↓e_X9_readWish_4, ↓e_X9_readWish_10, ↓e_X9_readWish_13, ↓e_X9_readWish_18, ↓e_X9_readWish_36, ↓e_X9_readWish_39, ↓e_X9_readWish_44, ↓e_X9_readWish_51, ↓e_X9_readWish_55, ↓e_X9_readWish_56, ↓e_X9_readWish_64, ↓e_X9_readWish_68, ↓e_X9_readWish_72, ↓e_X9_readWish_76, ↓e_X9_readWish_80, ↓e_X9_readWish_84, ↓e_X9_readWish_88, ↓e_X9_readWish_89, ↓e_X9_readWish_96, ↓e_X9_readWish_99, ↓e_X9_readWish_105, ↓e_X9_readWish_108, ↓e_X9_readWish_113, ↓e_X9_readWish_116, ↓e_X9_readWish_124, ↓e_X9_readWish_129, ↓e_X9_readWish_130, ↓e_X9_readWish_137, ↓e_X9_readWish_142, ↓e_X9_readWish_143, ↓e_X9_readWish_150, ↓e_X9_readWish_155, ↓e_X9_readWish_157, ↓e_X9_readWish_166, ↓e_X9_readWish_170, ↓e_X9_readWish_174, ↓e_X9_readWish_175, ↓e_X9_readWish_180, ↓e_X9_readWish_184, ↓e_X9_readWish_187, ↓e_X9_readWish_191, ↓e_X9_readWish_199, ↓e_X9_readWish_203, ↓e_X9_readWish_213, ↓e_X9_readWish_217, ↓e_X9_readWish_228, g9 o9_129, c0, c1, c2, q, ix_1, bI_f, zk_i, zk_r, zk_n, ↓reduceIte]
/-- after a fault, whatever the number -/
theorem m_wiB117 (E : zE) (d : Nat) {f : Nat → Nat → Int32} {t : (Nat → Nat → Int64) × Nat} (h8 : ¬ f 129 8 = -1) (w : Nat → Int32) {c : Nat} (hc : c ≤ 3) (p : Int32) (x1 : Int32) (on : Int32) (y : Option Value) (Q : Option Value → zH → Prop) : Ev E (d + 3) zm_X9_readWish 117 [some (.ref 129), some (.int x1), some (.int (w 0)), some (.int (w 1)), some (.int (w 2)), some (.int on), some (.int (nI c)), y] [.int p] (HP (f, t)) Q = Q none (HP (f, t)) := by
  by_cases h3 : c < 3
  · rw [m_wi117 E d f t w h3, m_wiB E d h8]
  · have e : c = 3 := by omega
    subst e
    have c0 : (nI 3 = 0) = False := by decide
    have c1 : (nI 3 = 1) = False := by decide
    have c2 : (nI 3 = 2) = False := by decide
    have en := m_wiB E d (t := t) h8
    by_cases q : f 129 6 = 2
    · have q' : (f 129 6 = 2) = True := eq_true q
      rw [e_X9_readWish_117]
      simp only [↓e_X9_readWish_4, ↓e_X9_readWish_10, ↓e_X9_readWish_13, ↓e_X9_readWish_18, ↓e_X9_readWish_36, ↓e_X9_readWish_39, ↓e_X9_readWish_44, ↓e_X9_readWish_51, ↓e_X9_readWish_55, ↓e_X9_readWish_56, ↓e_X9_readWish_64, ↓e_X9_readWish_68, ↓e_X9_readWish_72, ↓e_X9_readWish_76, ↓e_X9_readWish_80, ↓e_X9_readWish_84, ↓e_X9_readWish_88, ↓e_X9_readWish_89, ↓e_X9_readWish_96, ↓e_X9_readWish_99, ↓e_X9_readWish_105, ↓e_X9_readWish_108, ↓e_X9_readWish_113, ↓e_X9_readWish_116, ↓e_X9_readWish_124, ↓e_X9_readWish_129, ↓e_X9_readWish_130, ↓e_X9_readWish_137, ↓e_X9_readWish_142, ↓e_X9_readWish_143, ↓e_X9_readWish_150, ↓e_X9_readWish_155, ↓e_X9_readWish_157, ↓e_X9_readWish_166, ↓e_X9_readWish_170, ↓e_X9_readWish_174, ↓e_X9_readWish_175, ↓e_X9_readWish_180, ↓e_X9_readWish_184, ↓e_X9_readWish_187, ↓e_X9_readWish_191, ↓e_X9_readWish_199, ↓e_X9_readWish_203, ↓e_X9_readWish_213, ↓e_X9_readWish_217, ↓e_X9_readWish_228, g9 o9_129, c0, c1, c2, q', en, zk_i, zk_r, zk_n, ↓reduceIte]
    · rw [e_X9_readWish_117]
      simp only [↓e_X9_readWish_4, ↓e_X9_readWish_10, ↓e_X9_readWish_13, ↓e_X9_readWish_18, ↓e_X9_readWish_36, ↓e_X9_readWish_39, ↓e_X9_readWish_44, ↓e_X9_readWish_51, ↓e_X9_readWish_55, ↓e_X9_readWish_56, ↓e_X9_readWish_64, ↓e_X9_readWish_68, ↓e_X9_readWish_72, ↓e_X9_readWish_76, ↓e_X9_readWish_80, ↓e_X9_readWish_84, ↓e_X9_readWish_88, ↓e_X9_readWish_89, ↓e_X9_readWish_96, ↓e_X9_readWish_99, ↓e_X9_readWish_105, ↓e_X9_readWish_108, ↓e_X9_readWish_113, ↓e_X9_readWish_116, ↓e_X9_readWish_124, ↓e_X9_readWish_129, ↓e_X9_readWish_130, ↓e_X9_readWish_137, ↓e_X9_readWish_142, ↓e_X9_readWish_143, ↓e_X9_readWish_150, ↓e_X9_readWish_155, ↓e_X9_readWish_157, ↓e_X9_readWish_166, ↓e_X9_readWish_170, ↓e_X9_readWish_174, ↓e_X9_readWish_175, ↓e_X9_readWish_180, ↓e_X9_readWish_184, ↓e_X9_readWish_187, ↓e_X9_readWish_191, ↓e_X9_readWish_199, ↓e_X9_readWish_203, ↓e_X9_readWish_213, ↓e_X9_readWish_217, ↓e_X9_readWish_228, g9 o9_129, c0, c1, c2, q, en, zk_i, zk_r, zk_n, ↓reduceIte]
/-- after a fault, from the second test on -/
theorem m_wiB92 (E : zE) (d : Nat) {f : Nat → Nat → Int32} {t : (Nat → Nat → Int64) × Nat} (h8 : ¬ f 129 8 = -1) (w : Nat → Int32) {c : Nat} (hc : c ≤ 3) (x1 : Int32) (on : Int32) (y : Option Value) (Q : Option Value → zH → Prop) : Ev E (d + 3) zm_X9_readWish 92 [some (.ref 129), some (.int x1), some (.int (w 0)), some (.int (w 1)), some (.int (w 2)), some (.int on), some (.int (nI c)), y] [] (HP (f, t)) Q = Q none (HP (f, t)) := by
  have g := m_isGood E (d + 2) (f, t)
  dsimp only at g
  rw [decide_eq_false h8] at g
  have en := m_wiB117 E d (t := t) h8 w hc
  rw [e_X9_readWish_92]
  simp only [↓e_X9_readWish_4, ↓e_X9_readWish_10, ↓e_X9_readWish_13, ↓e_X9_readWish_18, ↓e_X9_readWish_36, ↓e_X9_readWish_39, ↓e_X9_readWish_44, ↓e_X9_readWish_51, ↓e_X9_readWish_55, ↓e_X9_readWish_56, ↓e_X9_readWish_64, ↓e_X9_readWish_68, ↓e_X9_readWish_72, ↓e_X9_readWish_76, ↓e_X9_readWish_80, ↓e_X9_readWish_84, ↓e_X9_readWish_88, ↓e_X9_readWish_89, ↓e_X9_readWish_96, ↓e_X9_readWish_99, ↓e_X9_readWish_105, ↓e_X9_readWish_108, ↓e_X9_readWish_113, ↓e_X9_readWish_116, ↓e_X9_readWish_124, ↓e_X9_readWish_129, ↓e_X9_readWish_130, ↓e_X9_readWish_137, ↓e_X9_readWish_142, ↓e_X9_readWish_143, ↓e_X9_readWish_150, ↓e_X9_readWish_155, ↓e_X9_readWish_157, ↓e_X9_readWish_166, ↓e_X9_readWish_170, ↓e_X9_readWish_174, ↓e_X9_readWish_175, ↓e_X9_readWish_180, ↓e_X9_readWish_184, ↓e_X9_readWish_187, ↓e_X9_readWish_191, ↓e_X9_readWish_199, ↓e_X9_readWish_203, ↓e_X9_readWish_213, ↓e_X9_readWish_217, ↓e_X9_readWish_228, v9 o9_129, g, en, zps_s, bI_f, zk_i, zk_r, zk_n, ↓reduceIte]
/-- one more wish -/
theorem m_wiN (E : zE) (d : Nat) {f : Nat → Nat → Int32} {t : (Nat → Nat → Int64) × Nat} (hx : RM f tx nl) {D : Nat → Int32} (hD : D133 f D) {np : Nat} (hnp : np ≤ 6) (h104 : D 104 = nI np) {i n e c : Nat} (hi : i ≤ nl) (hL : LT tx f i) (h8 : f 129 8 = -1) (hN : Num tx i 0 np n e) (hc : c < 3) {w : Nat → Int32} (hw : ∀ m, c ≤ m → m < 3 → w m = -1) (fr : ∀ j, j < c → ¬ w j = nI n) (x1 : Int32) (y : Option Value) : ∃ f', FrM f f' ∧ LT tx f' e ∧ f' 129 8 = -1 ∧ ∀ Q, Ev E (d + 3) zm_X9_readWish 32 [some (.ref 129), some (.int x1), some (.int (w 0)), some (.int (w 1)), some (.int (w 2)), some (.int 1), some (.int (nI c)), y] [] (HP (f, t)) Q = Ev E (d + 3) zm_X9_readWish 32 [some (.ref 129), some (.int x1), some (.int (upd w c (nI n) 0)), some (.int (upd w c (nI n) 1)), some (.int (upd w c (nI n) 2)), some (.int (bI (decide (f' 129 6 = 2)))), some (.int (nI (c + 1))), some (.int (nI n))] [] (HP (f', t)) Q := by
  have r0 := ri_k j133 (show 104 < 110 by decide) (by decide) E (f, t)
  have v0 : f 133 104 = nI np := (hD 104 (by decide)).trans h104
  have g0 := m_isGood E (d + 2) (f, t)
  dsimp only at g0
  rw [decide_eq_true h8] at g0
  obtain ⟨k6, k7⟩ := LT_2 hL hN
  have ne : ∀ m, m < 3 → ¬ nI n = w m := fun m hm q => by
    by_cases h : m < c
    · exact fr m h q.symm
    · rw [hw m (by omega) hm] at q
      exact (nI_nm (c := n) (by have := hN.2.2.1; omega)).mp q
  have ck : ckB f (w 0) (w 1) = true := by
    unfold ckB
    rw [k6, k7, decide_eq_true rfl, decide_eq_false (ne 0 (by decide)), decide_eq_false (ne 1 (by decide))]
    rfl
  obtain ⟨r2, z2, ⟨y1, y2, y3, y4, y5⟩, k2⟩ := Hr_use (m_rnLG E d (t := t) hx hi hL h8 hN (by omega) (lv := 0) (hv := nI np - 1) (by decide) rfl)
  subst y1
  obtain ⟨f2, tt⟩ := z2
  dsimp only at y2 y3 y4 y5
  subst y2
  have c3 : (nI c < 3) = True := eq_true (by rw [show (3 : Int32) = nI 3 from by decide, nI_lt_iff (by omega) (by decide)]; exact hc)
  have nx := m_wi59 E d f tt (w 0) (w 1) (some (.int x1)) (some (.int (w 2))) (some (.int 1)) (some (.int (nI c))) y
  rw [ck, bI_t] at nx
  have en := m_wi117 E d f2 tt w hc (nI n) x1 1 y
  refine ⟨f2, y3, y4, y5, fun Q => ?_⟩
  rw [e_X9_readWish_32]
  simp only [↓e_X9_readWish_4, ↓e_X9_readWish_10, ↓e_X9_readWish_13, ↓e_X9_readWish_18, ↓e_X9_readWish_36, ↓e_X9_readWish_39, ↓e_X9_readWish_44, ↓e_X9_readWish_51, ↓e_X9_readWish_55, ↓e_X9_readWish_56, ↓e_X9_readWish_64, ↓e_X9_readWish_68, ↓e_X9_readWish_72, ↓e_X9_readWish_76, ↓e_X9_readWish_80, ↓e_X9_readWish_84, ↓e_X9_readWish_88, ↓e_X9_readWish_89, ↓e_X9_readWish_92, ↓e_X9_readWish_96, ↓e_X9_readWish_99, ↓e_X9_readWish_105, ↓e_X9_readWish_108, ↓e_X9_readWish_113, ↓e_X9_readWish_116, ↓e_X9_readWish_124, ↓e_X9_readWish_129, ↓e_X9_readWish_130, ↓e_X9_readWish_137, ↓e_X9_readWish_142, ↓e_X9_readWish_143, ↓e_X9_readWish_150, ↓e_X9_readWish_155, ↓e_X9_readWish_157, ↓e_X9_readWish_166, ↓e_X9_readWish_170, ↓e_X9_readWish_174, ↓e_X9_readWish_175, ↓e_X9_readWish_180, ↓e_X9_readWish_184, ↓e_X9_readWish_187, ↓e_X9_readWish_191, ↓e_X9_readWish_199, ↓e_X9_readWish_203, ↓e_X9_readWish_213, ↓e_X9_readWish_217, ↓e_X9_readWish_228, g9 o9_129, v9 o9_129, Nat.reduceAdd, g0, i01, c3, m_needs1, nx, n104, r0, v0, k2, en, zps_s, zps_n, bI_t, zk_i, zk_r, zk_n, ↓reduceIte]
theorem ix_w (x j : Nat) : (66 : Int32) + 3 * nI x = nI (66 + 3 * x) := by rw [show (66 : Int32) = nI 66 from by decide, show (3 : Int32) = nI 3 from by decide, nI_mul, nI_add]
/-- the end of the loop without a fault -/
theorem m_wiX (E : zE) (d : Nat) {f : Nat → Nat → Int32} {t : (Nat → Nat → Int64) × Nat} {D : Nat → Int32} (hD : D133 f D) (h8 : f 129 8 = -1) {x : Nat} (hx6 : x < 6) (w : Nat → Int32) (x6 x7 : Option Value) : ∃ f', FrN f f' ∧ f' 129 = f 129 ∧ D133 f' (dWish D x w) ∧ ∀ Q, Ev E (d + 3) zm_X9_readWish 32 [some (.ref 129), some (.int (nI x)), some (.int (w 0)), some (.int (w 1)), some (.int (w 2)), some (.int 0), x6, x7] [] (HP (f, t)) Q = Q none (HP (f', t)) := by
  have g := m_isGood E (d + 2) (f, t)
  dsimp only at g
  rw [decide_eq_true h8] at g
  have ix : (66 : Int32) + 3 * nI x = nI (66 + 3 * x) := ix_w x 0
  obtain ⟨f1, hf1⟩ : ∃ g : Nat → Nat → Int32, g = set2 f 133 (66 + 3 * x) (w 0) := ⟨_, rfl⟩
  have w1 := wi_k j133 (show 66 + 3 * x < 110 by omega) (by decide) (f, t) (w 0)
  dsimp only at w1
  rw [← hf1] at w1
  obtain ⟨f2, hf2⟩ : ∃ g : Nat → Nat → Int32, g = set2 f1 133 (66 + 3 * x + 1) (w 1) := ⟨_, rfl⟩
  have w2 := wi_k j133 (show 66 + 3 * x + 1 < 110 by omega) (by decide) (f1, t) (w 1)
  dsimp only at w2
  rw [← hf2] at w2
  obtain ⟨f3, hf3⟩ : ∃ g : Nat → Nat → Int32, g = set2 f2 133 (66 + 3 * x + 2) (w 2) := ⟨_, rfl⟩
  have w3 := wi_k j133 (show 66 + 3 * x + 2 < 110 by omega) (by decide) (f2, t) (w 2)
  dsimp only at w3
  rw [← hf3] at w3
  refine ⟨f3, FrN_t (g := f1) (by rw [hf1]; exact FrN_3 _ _ _) (FrN_t (g := f2) (by rw [hf2]; exact FrN_3 _ _ _) (by rw [hf3]; exact FrN_3 _ _ _)), by rw [hf3, set2_a (by decide), hf2, set2_a (by decide), hf1, set2_a (by decide)], by rw [hf3, hf2, hf1]; exact D133_w (D133_w (D133_w hD _ _) _ _) _ _, fun Q => ?_⟩
  rw [e_X9_readWish_32]
  simp only [↓e_X9_readWish_4, ↓e_X9_readWish_10, ↓e_X9_readWish_13, ↓e_X9_readWish_18, ↓e_X9_readWish_36, ↓e_X9_readWish_39, ↓e_X9_readWish_44, ↓e_X9_readWish_51, ↓e_X9_readWish_55, ↓e_X9_readWish_56, ↓e_X9_readWish_64, ↓e_X9_readWish_68, ↓e_X9_readWish_72, ↓e_X9_readWish_76, ↓e_X9_readWish_80, ↓e_X9_readWish_84, ↓e_X9_readWish_88, ↓e_X9_readWish_89, ↓e_X9_readWish_96, ↓e_X9_readWish_99, ↓e_X9_readWish_105, ↓e_X9_readWish_108, ↓e_X9_readWish_113, ↓e_X9_readWish_116, ↓e_X9_readWish_124, ↓e_X9_readWish_129, ↓e_X9_readWish_130, ↓e_X9_readWish_137, ↓e_X9_readWish_142, ↓e_X9_readWish_143, ↓e_X9_readWish_150, ↓e_X9_readWish_155, ↓e_X9_readWish_157, ↓e_X9_readWish_166, ↓e_X9_readWish_170, ↓e_X9_readWish_174, ↓e_X9_readWish_175, ↓e_X9_readWish_180, ↓e_X9_readWish_184, ↓e_X9_readWish_187, ↓e_X9_readWish_191, ↓e_X9_readWish_199, ↓e_X9_readWish_203, ↓e_X9_readWish_213, ↓e_X9_readWish_217, ↓e_X9_readWish_228, g9 o9_129, v9 o9_129, Nat.reduceAdd, g, i01, ix, ix_1, ix_2, w1, w2, w3, zps_s, bI_t, zk_i, zk_r, zk_n, ↓reduceIte]
theorem m_wiS (E : zE) (d : Nat) {t : (Nat → Nat → Int64) × Nat} {np x : Nat} (hnp : np ≤ 6) (hx6 : x < 6) : ∀ k (f : Nat → Nat → Int32) (D : Nat → Int32) i c (w w' : Nat → Int32) i' (y : Option Value), RM f tx nl → D133 f D → D 104 = nI np → i ≤ nl → LT tx f i → f 129 8 = -1 → c ≤ 3 → (∀ m, c ≤ m → m < 3 → w m = -1) → (c = 0 → 0 < k) → WiS tx np k i c w w' i' → ∃ f' j, FrN f f' ∧ LT tx f' j ∧ j ≤ nl ∧ StpS tx j i' ∧ f' 129 8 = -1 ∧ D133 f' (dWish D x w') ∧ ∀ Q, Ev E (d + 3) zm_X9_readWish 32 [some (.ref 129), some (.int (nI x)), some (.int (w 0)), some (.int (w 1)), some (.int (w 2)), some (.int (bI (decide (c = 0) || decide (f 129 6 = 2)))), some (.int (nI c)), y] [] (HP (f, t)) Q = Q none (HP (f', t))
  | 0, f, D, i, c, w, w', i', y, hx, hD, h104, hi, hL, h8, hc, hw, hb, hS => by
    obtain ⟨e1, hS⟩ := hS
    subst e1
    have k3 := (LT_3 hL hS).1
    have c0 : ¬ c = 0 := fun h => absurd (hb h) (by decide)
    have bf : (decide (c = 0) || decide (f 129 6 = 2)) = false := by rw [decide_eq_false c0, k3]; decide
    rw [bf]
    obtain ⟨f', a1, a2, a3, kk⟩ := m_wiX E d (t := t) hD h8 hx6 w' (some (.int (nI c))) y
    exact ⟨f', i, a1, LT_c a2 hL, hi, hS, by rw [a2]; exact h8, a3, kk⟩
  | k + 1, f, D, i, c, w, w', i', y, hx, hD, h104, hi, hL, h8, hc, hw, hb, hS => by
    obtain ⟨n, e, h3, hN, fr, hS⟩ := hS
    have k2 := (LT_2 hL hN).1
    have bt : (decide (c = 0) || decide (f 129 6 = 2)) = true := by rw [k2, decide_eq_true (p := (2 : Int32) = 2) rfl, Bool.or_true]
    rw [bt]
    obtain ⟨f1, a1, a2, a3, kk⟩ := m_wiN E d (t := t) hx hD hnp h104 hi hL h8 hN h3 hw fr (nI x) y
    obtain ⟨f2, j, b1, b2, b3, b4, b5, b6, kk2⟩ := m_wiS E d (t := t) hnp hx6 k f1 D e (c + 1) (upd w c (nI n)) w' i' (some (.int (nI n))) (FrN_x (FrN_m a1) hx) (D133_c (a1.1 133 (by decide)) hD) h104 (num_nl hx.2.2.2 hi hN) a2 a3 (by omega) (fun m h1 h2 => by rw [uN (by omega)]; exact hw m (by omega) h2) (fun h => by omega) hS
    rw [decide_eq_false (show ¬ c + 1 = 0 by omega), Bool.false_or] at kk2
    exact ⟨f2, j, FrN_t (FrN_m a1) b1, b2, b3, b4, b5, b6, fun Q => by rw [bI_t, kk, kk2]⟩
theorem m_wiF (E : zE) (d : Nat) {t : (Nat → Nat → Int64) × Nat} {np x s : Nat} (hnp : np ≤ 6) (hx6 : x < 6) : ∀ k (f : Nat → Nat → Int32) (D : Nat → Int32) i c (w : Nat → Int32) (y : Option Value), RM f tx nl → D133 f D → D 104 = nI np → i ≤ nl → LT tx f i → f 129 8 = -1 → c ≤ 3 → (∀ m, c ≤ m → m < 3 → w m = -1) → WiF tx np k i c w s → ∃ f', FrN f f' ∧ (f' 129 8 = nI s ∨ ∃ j, LT tx f' j ∧ j ≤ nl ∧ StpF tx j s ∧ f' 129 8 = -1) ∧ ∀ Q, Ev E (d + 3) zm_X9_readWish 32 [some (.ref 129), some (.int (nI x)), some (.int (w 0)), some (.int (w 1)), some (.int (w 2)), some (.int (bI (decide (c = 0) || decide (f 129 6 = 2)))), some (.int (nI c)), y] [] (HP (f, t)) Q = Q none (HP (f', t))
  | 0, f, D, i, c, w, y, hx, hD, h104, hi, hL, h8, hc, hw, hF => by
    have h240 := hx.2.1
    obtain ⟨e, kk, v, hT, hb, hn⟩ := hF
    have hs := (tok_nl hx.2.2.2 hi hT).1
    obtain ⟨q4, q5, q6⟩ := LT_t hL hT
    cases bo : (decide (c = 0) || decide (f 129 6 = 2)) with
    | false =>
      rw [Bool.or_eq_false_iff] at bo
      have k3 : ¬ kk = 3 := by
        rcases hb with hb | hb
        · exact absurd hb (of_decide_eq_false bo.1)
        · exact hb
      obtain ⟨f', a1, a2, a3, en⟩ := m_wiX E d (t := t) hD h8 hx6 w (some (.int (nI c))) y
      exact ⟨f', a1, Or.inr ⟨i, LT_c a2 hL, hi, ⟨e, kk, v, hT, k3⟩, by rw [a2]; exact h8⟩, en⟩
    | true =>
      have g0 := m_isGood E (d + 2) (f, t)
      dsimp only at g0
      rw [decide_eq_true h8] at g0
      have nd := m_needs0 E (d + 2) (f := f) (t := t) h8
      rw [q5] at nd
      obtain ⟨f1, hf1⟩ : ∃ g : Nat → Nat → Int32, g = set2 f 129 8 (nI s) := ⟨_, rfl⟩
      rw [← hf1] at nd
      have e8 : f1 129 8 = nI s := by rw [hf1, set2_s]
      have n8 : ¬ f1 129 8 = -1 := by rw [e8]; exact s_nm (by omega)
      have F1 : FrN f f1 := by rw [hf1]; exact FrN_8 _ _
      refine ⟨f1, F1, Or.inl e8, fun Q => ?_⟩
      rw [bI_t]
      by_cases h3 : c < 3
      · have c3 : (nI c < 3) = True := eq_true (by rw [show (3 : Int32) = nI 3 from by decide, nI_lt_iff (by omega) (by decide)]; exact h3)
        have nx := m_wi59 E d f t (w 0) (w 1) (some (.int (nI x))) (some (.int (w 2))) (some (.int 1)) (some (.int (nI c))) y
        cases ck : ckB f (w 0) (w 1) with
        | false =>
          rw [ck, bI_f] at nx
          have en := m_wiB92 E d (t := t) n8 w hc (nI x) 1 y
          rw [e_X9_readWish_32]
          simp only [↓e_X9_readWish_4, ↓e_X9_readWish_10, ↓e_X9_readWish_13, ↓e_X9_readWish_18, ↓e_X9_readWish_36, ↓e_X9_readWish_39, ↓e_X9_readWish_44, ↓e_X9_readWish_51, ↓e_X9_readWish_55, ↓e_X9_readWish_56, ↓e_X9_readWish_64, ↓e_X9_readWish_68, ↓e_X9_readWish_72, ↓e_X9_readWish_76, ↓e_X9_readWish_80, ↓e_X9_readWish_84, ↓e_X9_readWish_88, ↓e_X9_readWish_89, ↓e_X9_readWish_96, ↓e_X9_readWish_99, ↓e_X9_readWish_105, ↓e_X9_readWish_108, ↓e_X9_readWish_113, ↓e_X9_readWish_116, ↓e_X9_readWish_124, ↓e_X9_readWish_129, ↓e_X9_readWish_130, ↓e_X9_readWish_137, ↓e_X9_readWish_142, ↓e_X9_readWish_143, ↓e_X9_readWish_150, ↓e_X9_readWish_155, ↓e_X9_readWish_157, ↓e_X9_readWish_166, ↓e_X9_readWish_170, ↓e_X9_readWish_174, ↓e_X9_readWish_175, ↓e_X9_readWish_180, ↓e_X9_readWish_184, ↓e_X9_readWish_187, ↓e_X9_readWish_191, ↓e_X9_readWish_199, ↓e_X9_readWish_203, ↓e_X9_readWish_213, ↓e_X9_readWish_217, ↓e_X9_readWish_228, g9 o9_129, v9 o9_129, Nat.reduceAdd, g0, i01, c3, m_needs1, nx, nd, en, zps_s, zps_n, bI_t, zk_i, zk_r, zk_n, ↓reduceIte]
        | true =>
          rw [ck, bI_t] at nx
          unfold ckB at ck
          rw [Bool.and_eq_true, Bool.and_eq_true, Bool.not_eq_true', Bool.not_eq_true', decide_eq_true_iff, decide_eq_false_iff_not, decide_eq_false_iff_not] at ck
          obtain ⟨ck1, ck2, ck3⟩ := ck
          have NF : NumF tx i 0 np s := ⟨e, kk, v, hT, fun h => by
            obtain ⟨h1, n, h2, h4, -, h6⟩ := h
            have v7 : f 129 7 = nI n := by
              rcases q6 with ⟨b1, b2⟩ | ⟨b1, -⟩
              · rw [b2 h1, h4]
              · rw [h1] at b1
                exact absurd b1 (by decide)
            refine hn ⟨h3, h1, n, h2, h4, h6, fun j hj q => ?_⟩
            rcases (by omega : j = 0 ∨ j = 1) with e | e
            · subst e
              exact ck2 (by rw [v7, q])
            · subst e
              exact ck3 (by rw [v7, q])⟩
          have r0 := ri_k j133 (show 104 < 110 by decide) (by decide) E (f, t)
          have v0 : f 133 104 = nI np := (hD 104 (by decide)).trans h104
          obtain ⟨xx, k2⟩ := m_rnLF E d (t := t) hx hi hL h8 NF (by decide) (by omega) (lv := 0) (hv := nI np - 1) (by decide) rfl
          rw [← hf1] at k2
          have en := m_wiB117 E d (t := t) n8 w hc xx (nI x) 1 y
          rw [e_X9_readWish_32]
          simp only [↓e_X9_readWish_4, ↓e_X9_readWish_10, ↓e_X9_readWish_13, ↓e_X9_readWish_18, ↓e_X9_readWish_36, ↓e_X9_readWish_39, ↓e_X9_readWish_44, ↓e_X9_readWish_51, ↓e_X9_readWish_55, ↓e_X9_readWish_56, ↓e_X9_readWish_64, ↓e_X9_readWish_68, ↓e_X9_readWish_72, ↓e_X9_readWish_76, ↓e_X9_readWish_80, ↓e_X9_readWish_84, ↓e_X9_readWish_88, ↓e_X9_readWish_89, ↓e_X9_readWish_92, ↓e_X9_readWish_96, ↓e_X9_readWish_99, ↓e_X9_readWish_105, ↓e_X9_readWish_108, ↓e_X9_readWish_113, ↓e_X9_readWish_116, ↓e_X9_readWish_124, ↓e_X9_readWish_129, ↓e_X9_readWish_130, ↓e_X9_readWish_137, ↓e_X9_readWish_142, ↓e_X9_readWish_143, ↓e_X9_readWish_150, ↓e_X9_readWish_155, ↓e_X9_readWish_157, ↓e_X9_readWish_166, ↓e_X9_readWish_170, ↓e_X9_readWish_174, ↓e_X9_readWish_175, ↓e_X9_readWish_180, ↓e_X9_readWish_184, ↓e_X9_readWish_187, ↓e_X9_readWish_191, ↓e_X9_readWish_199, ↓e_X9_readWish_203, ↓e_X9_readWish_213, ↓e_X9_readWish_217, ↓e_X9_readWish_228, g9 o9_129, v9 o9_129, Nat.reduceAdd, g0, i01, c3, m_needs1, nx, n104, r0, v0, k2, en, zps_s, zps_n, bI_t, zk_i, zk_r, zk_n, ↓reduceIte]
      · have c3 : (nI c < 3) = False := eq_false (by rw [show (3 : Int32) = nI 3 from by decide, nI_lt_iff (by omega) (by decide)]; exact h3)
        have nx := m_wi59 E d f1 t (w 0) (w 1) (some (.int (nI x))) (some (.int (w 2))) (some (.int 1)) (some (.int (nI c))) y
        have n2 := m_needs2 E (d + 2) (t := t) n8
        have en := m_wiB92 E d (t := t) n8 w hc (nI x) 1 y
        rw [e_X9_readWish_32]
        simp only [↓e_X9_readWish_4, ↓e_X9_readWish_10, ↓e_X9_readWish_13, ↓e_X9_readWish_18, ↓e_X9_readWish_36, ↓e_X9_readWish_39, ↓e_X9_readWish_44, ↓e_X9_readWish_51, ↓e_X9_readWish_55, ↓e_X9_readWish_56, ↓e_X9_readWish_64, ↓e_X9_readWish_68, ↓e_X9_readWish_72, ↓e_X9_readWish_76, ↓e_X9_readWish_80, ↓e_X9_readWish_84, ↓e_X9_readWish_88, ↓e_X9_readWish_89, ↓e_X9_readWish_96, ↓e_X9_readWish_99, ↓e_X9_readWish_105, ↓e_X9_readWish_108, ↓e_X9_readWish_113, ↓e_X9_readWish_116, ↓e_X9_readWish_124, ↓e_X9_readWish_129, ↓e_X9_readWish_130, ↓e_X9_readWish_137, ↓e_X9_readWish_142, ↓e_X9_readWish_143, ↓e_X9_readWish_150, ↓e_X9_readWish_155, ↓e_X9_readWish_157, ↓e_X9_readWish_166, ↓e_X9_readWish_170, ↓e_X9_readWish_174, ↓e_X9_readWish_175, ↓e_X9_readWish_180, ↓e_X9_readWish_184, ↓e_X9_readWish_187, ↓e_X9_readWish_191, ↓e_X9_readWish_199, ↓e_X9_readWish_203, ↓e_X9_readWish_213, ↓e_X9_readWish_217, ↓e_X9_readWish_228, g9 o9_129, v9 o9_129, Nat.reduceAdd, g0, i01, c3, nd, nx, n2, en, zps_s, zps_n, bI_t, zk_i, zk_r, zk_n, ↓reduceIte]
  | k + 1, f, D, i, c, w, y, hx, hD, h104, hi, hL, h8, hc, hw, hF => by
    obtain ⟨n, e, h3, hN, fr, hF⟩ := hF
    have k2 := (LT_2 hL hN).1
    have bt : (decide (c = 0) || decide (f 129 6 = 2)) = true := by rw [k2, decide_eq_true (p := (2 : Int32) = 2) rfl, Bool.or_true]
    rw [bt]
    obtain ⟨f1, a1, a2, a3, kk⟩ := m_wiN E d (t := t) hx hD hnp h104 hi hL h8 hN h3 hw fr (nI x) y
    obtain ⟨f2, b1, b2, kk2⟩ := m_wiF E d (t := t) hnp hx6 k f1 D e (c + 1) (upd w c (nI n)) (some (.int (nI n))) (FrN_x (FrN_m a1) hx) (D133_c (a1.1 133 (by decide)) hD) h104 (num_nl hx.2.2.2 hi hN) a2 a3 (by omega) (fun m h1 h2 => by rw [uN (by omega)]; exact hw m (by omega) h2) hF
    rw [decide_eq_false (show ¬ c + 1 = 0 by omega), Bool.false_or] at kk2
    exact ⟨f2, FrN_t (FrN_m a1) b1, b2, fun Q => by rw [bI_t, kk, kk2]⟩
theorem m_wiI (E : zE) (d : Nat) {f : Nat → Nat → Int32} {t : (Nat → Nat → Int64) × Nat} (hx : RM f tx nl) {D : Nat → Int32} (hD : D133 f D) {nc : Nat} (h105 : D 105 = nI nc) {i s e : Nat} {v : Int32} (hi : i ≤ nl) (hL : LT tx f i) (hT : Tok tx i s e 1 v) (h8 : f 129 8 = -1) : ∃ f1, FrN f f1 ∧ LT tx f1 e ∧ f1 129 8 = -1 ∧ D133 f1 D ∧ ∀ K, Cl E (d + 3) 145 [.ref 129] (HP (f, t)) K = Cl E (d + 2) 141 [.ref 129, .int 0, .int (nI nc - 1)] (HP (f1, t)) (fun r h1 => Ev E (d + 3) zm_X9_readWish 18 [some (.ref 129), none, none, none, none, none, none, none] (zps r []) h1 K) := by
  have l0 := (tok_nl hx.2.2.2 hi hT).2
  obtain ⟨r1, z1, ⟨x1, x2, x3, x4⟩, k1⟩ := Hr_use (m_tokL E (d + 1) (t := t) hx l0 (LT_t hL hT).1)
  subst x1
  obtain ⟨f1, tt⟩ := z1
  dsimp only at x2 x3 x4
  subst x2
  have D1 : D133 f1 D := D133_c (x3.1 133 (by decide)) hD
  have r1' := ri_k j133 (show 105 < 110 by decide) (by decide) E (f1, tt)
  have v1' : f1 133 105 = nI nc := (D1 105 (by decide)).trans h105
  refine ⟨f1, FrN_m x3, x4, by rw [x3.2 8 (by decide) (by decide) (by decide) (by decide)]; exact h8, D1, fun K => ?_⟩
  simp only [↓c_X9_readWish, ↓e_X9_readWish_0, ↓e_X9_readWish_4, ↓e_X9_readWish_10, ↓e_X9_readWish_13, ↓e_X9_readWish_36, ↓e_X9_readWish_39, ↓e_X9_readWish_44, ↓e_X9_readWish_51, ↓e_X9_readWish_55, ↓e_X9_readWish_56, ↓e_X9_readWish_64, ↓e_X9_readWish_68, ↓e_X9_readWish_72, ↓e_X9_readWish_76, ↓e_X9_readWish_80, ↓e_X9_readWish_84, ↓e_X9_readWish_88, ↓e_X9_readWish_89, ↓e_X9_readWish_96, ↓e_X9_readWish_99, ↓e_X9_readWish_105, ↓e_X9_readWish_108, ↓e_X9_readWish_113, ↓e_X9_readWish_116, ↓e_X9_readWish_124, ↓e_X9_readWish_129, ↓e_X9_readWish_130, ↓e_X9_readWish_137, ↓e_X9_readWish_142, ↓e_X9_readWish_143, ↓e_X9_readWish_150, ↓e_X9_readWish_155, ↓e_X9_readWish_157, ↓e_X9_readWish_166, ↓e_X9_readWish_170, ↓e_X9_readWish_174, ↓e_X9_readWish_175, ↓e_X9_readWish_180, ↓e_X9_readWish_184, ↓e_X9_readWish_187, ↓e_X9_readWish_191, ↓e_X9_readWish_199, ↓e_X9_readWish_203, ↓e_X9_readWish_213, ↓e_X9_readWish_217, ↓e_X9_readWish_228, g9 o9_129, v9 o9_129, Nat.reduceAdd, n105', k1, r1', v1', zps_s, zps_n, zk_i, zk_r, zk_n]
theorem m_wishLG (E : zE) (d : Nat) {f : Nat → Nat → Int32} {t : (Nat → Nat → Int64) × Nat} (hx : RM f tx nl) {D : Nat → Int32} (hD : D133 f D) {np nc : Nat} (hnp : np ≤ 6) (hnc : nc ≤ 6) (h104 : D 104 = nI np) (h105 : D 105 = nI nc) {i s e : Nat} {v : Int32} (hi : i ≤ nl) (hL : LT tx f i) (hT : Tok tx i s e 1 v) (h8 : f 129 8 = -1) {x k e1 i' : Nat} {w : Nat → Int32} (hN : Num tx e 0 nc x e1) (hk : 0 < k) (hS : WiS tx np k e1 0 (fun _ => -1) w i') : Hr E (d + 3) 145 [.ref 129] (f, t) (fun r z' => ∃ j, GoodI tx f t j (dWish D x w) r z' ∧ j ≤ nl ∧ StpS tx j i') := by
  have l0 := (tok_nl hx.2.2.2 hi hT).2
  have l1 := num_nl hx.2.2.2 l0 hN
  obtain ⟨f1, a1, a2, a3, a4, k1⟩ := m_wiI E d (t := t) hx hD h105 hi hL hT h8
  obtain ⟨r2, z2, ⟨y1, y2, y3, y4, y5⟩, k2⟩ := Hr_use (m_rnLG E d (t := t) (FrN_x a1 hx) l0 a2 a3 hN (by omega) (lv := 0) (hv := nI nc - 1) (by decide) rfl)
  subst y1
  obtain ⟨f2, tt⟩ := z2
  dsimp only at y2 y3 y4 y5
  subst y2
  have F2 : FrN f f2 := FrN_t a1 (FrN_m y3)
  obtain ⟨f4, j, b1, b2, b3, b4, b5, b6, kk2⟩ := m_wiS E d (t := tt) (x := x) hnp (by have := hN.2.1; omega) k f2 D e1 0 (fun _ => -1) w i' none (FrN_x F2 hx) (D133_c (y3.1 133 (by decide)) a4) h104 l1 y4 y5 (by decide) (fun _ _ _ => rfl) (fun _ => hk) hS
  rw [decide_eq_true (p := (0 : Nat) = 0) rfl, Bool.true_or, bI_t, nI_0] at kk2
  refine Hr_of (z' := (f4, tt)) (r := none) (fun K => ?_) ⟨j, ⟨rfl, rfl, FrN_t F2 b1, b2, b5, b6⟩, b3, b4⟩
  rw [k1]
  simp only [↓e_X9_readWish_18, k2, kk2, zps_s, zk_i, zk_r, zk_n]
theorem m_wishLF (E : zE) (d : Nat) {f : Nat → Nat → Int32} {t : (Nat → Nat → Int64) × Nat} (hx : RM f tx nl) {D : Nat → Int32} (hD : D133 f D) {np nc : Nat} (hnp : np ≤ 6) (hnc : nc ≤ 6) (h104 : D 104 = nI np) (h105 : D 105 = nI nc) {i s e s' : Nat} {v : Int32} (hi : i ≤ nl) (hL : LT tx f i) (hT : Tok tx i s e 1 v) (h8 : f 129 8 = -1) (hF : NumF tx e 0 nc s' ∨ ∃ x e1 k, Num tx e 0 nc x e1 ∧ WiF tx np k e1 0 (fun _ => -1) s') : Hr E (d + 3) 145 [.ref 129] (f, t) (fun r z' => BadI f t s' r z' ∨ ∃ j D', GoodI tx f t j D' r z' ∧ j ≤ nl ∧ StpF tx j s') := by
  have h240 := hx.2.1
  have l0 := (tok_nl hx.2.2.2 hi hT).2
  obtain ⟨f1, a1, a2, a3, a4, k1⟩ := m_wiI E d (t := t) hx hD h105 hi hL hT h8
  rcases hF with hF | ⟨x, e1, k, hN, hF⟩
  · have hs := numF_nl hx.2.2.2 l0 hF
    obtain ⟨x, k2⟩ := m_rnLF E d (t := t) (FrN_x a1 hx) l0 a2 a3 hF (by decide) (by omega) (lv := 0) (hv := nI nc - 1) (by decide) rfl
    obtain ⟨f2, hf2⟩ : ∃ g : Nat → Nat → Int32, g = set2 f1 129 8 (nI s') := ⟨_, rfl⟩
    rw [← hf2] at k2
    have e8 : f2 129 8 = nI s' := by rw [hf2, set2_s]
    have en := m_wiB E d (f := f2) (t := t) (by rw [e8]; exact s_nm (by omega))
    refine Hr_of (z' := (f2, t)) (r := none) (fun K => ?_) (Or.inl ⟨rfl, rfl, FrN_t a1 (by rw [hf2]; exact FrN_8 _ _), e8⟩)
    rw [k1]
    simp only [↓e_X9_readWish_18, k2, en, zps_s, zk_i, zk_r, zk_n]
  · have l1 := num_nl hx.2.2.2 l0 hN
    obtain ⟨r2, z2, ⟨y1, y2, y3, y4, y5⟩, k2⟩ := Hr_use (m_rnLG E d (t := t) (FrN_x a1 hx) l0 a2 a3 hN (by omega) (lv := 0) (hv := nI nc - 1) (by decide) rfl)
    subst y1
    obtain ⟨f2, tt⟩ := z2
    dsimp only at y2 y3 y4 y5
    subst y2
    have F2 : FrN f f2 := FrN_t a1 (FrN_m y3)
    obtain ⟨f4, b1, b2, kk2⟩ := m_wiF E d (t := tt) (x := x) hnp (by have := hN.2.1; omega) k f2 D e1 0 (fun _ => -1) none (FrN_x F2 hx) (D133_c (y3.1 133 (by decide)) a4) h104 l1 y4 y5 (by decide) (fun _ _ _ => rfl) hF
    rw [decide_eq_true (p := (0 : Nat) = 0) rfl, Bool.true_or, bI_t, nI_0] at kk2
    refine Hr_of (z' := (f4, tt)) (r := none) (fun K => ?_) ?_
    · rw [k1]
      simp only [↓e_X9_readWish_18, k2, kk2, zps_s, zk_i, zk_r, zk_n]
    · rcases b2 with b2 | ⟨j, c1, c2, c3, c4⟩
      · exact Or.inl ⟨rfl, rfl, FrN_t F2 b1, b2⟩
      · exact Or.inr ⟨j, _, ⟨rfl, rfl, FrN_t F2 b1, c1, c4, D133_r _⟩, c2, c3⟩
end F11
