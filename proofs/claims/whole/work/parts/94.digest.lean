/-! digest -/
def dgP (z : zS) (p : Nat) (h : Int64) : Int64 := m31 (m31 (m31 (itr (nrF z (3 * p)) 3 h) (z.1 130 (18 + p))) (z.1 130 (24 + p))) (z.1 130 (30 + p))
def dgC (z : zS) (c : Nat) (h : Int64) : Int64 := m31 (itr (nrF z (66 + 3 * c)) 3 (itr (nrF z (36 + 5 * c)) 5 h)) (z.1 130 (84 + c))
def dgS (a b k : Nat) : Int32 := if k = 0 then (if 0 < a then 1 else 0) else if k = 1 then nI (lbN a) else nI (lbN b)
def dgZ (z : zS) (np nc ns nl ny a b : Nat) : Int64 := itr (lmF b) (lbN b) (itr (lmF a) (lbN a) (itr (fun k h => m31 h (dgS a b k)) 3 (itr (nrF z 110) ny (itr (nrF z 121) nl (itr (nrF z 107) 2 (itr (nrF z 90) (2 * ns) (itr (dgC z) nc (itr (dgP z) np (itr (fun k h => m31 h (coM z (nI k))) 5 607)))))))))
theorem m_digest (E : zE) (d : Nat) {z : zS} {np nc ns nl ny a b : Nat} (hp : z.1 130 104 = nI np) (hc : z.1 130 105 = nI nc) (hs : z.1 130 106 = nI ns) (hl : z.1 130 120 = nI nl) (hy : z.1 130 109 = nI ny) (n1 : np ≤ 6) (n2 : nc ≤ 6) (n3 : ns ≤ 7) (n4 : nl ≤ 240) (n5 : ny ≤ 10) (ha : a < 2 ^ 40) (hb : b < 2 ^ 40) (f2 : z.2.1 129 17 = lN a) (f3 : z.2.1 129 18 = lN b) (K : Option Value → zH → Prop) : Cl E (d + 3) 226 [.ref 129] (HP z) K = K (some (.long (dgZ z np nc ns nl ny a b))) (HP (z.1, set2L z.2.1 129 21 (dgZ z np nc ns nl ny a b), z.2.2)) := by
  have q1 : ∀ h, (set2L z.2.1 129 21 h) 129 17 = lN a := fun h => by rw [set2L_n (Or.inr (by decide))]; exact f2
  have q2 : ∀ h, (set2L z.2.1 129 21 h) 129 18 = lN b := fun h => by rw [set2L_n (Or.inr (by decide))]; exact f3
  have nr : ∀ (w : (Nat → Nat → Int64) × Nat) (b : Nat), nrF (z.1, w) b = nrF z b := fun w b => rfl
  have co : ∀ (w : (Nat → Nat → Int64) × Nat) (b : Int32), coM (z.1, w) b = coM z b := fun w b => rfl
  have l0 := fun w => itr_eq (fun i h => Ev E (d + 3) zm_X9_digest 9 [some (.ref 129), some (.int (nI i))] [] (HP (z.1, set2L z.2.1 129 21 h, z.2.2)) K) (fun k h => m31 h (coM z (nI k))) w 5 (fun i hi => by
    generalize itr _ i _ = h
    rw [e_X9_digest_9]
    simp only [↓e_X9_digest_7, ↓e_X9_digest_14, ↓e_X9_digest_20, ↓e_X9_digest_24, ↓e_X9_digest_30, ↓e_X9_digest_37, ↓e_X9_digest_40, ↓e_X9_digest_43, ↓e_X9_digest_53, ↓e_X9_digest_58, ↓e_X9_digest_63, ↓e_X9_digest_67, ↓e_X9_digest_72, ↓e_X9_digest_77, ↓e_X9_digest_81, ↓e_X9_digest_86, ↓e_X9_digest_91, ↓e_X9_digest_95, ↓e_X9_digest_101, ↓e_X9_digest_108, ↓e_X9_digest_111, ↓e_X9_digest_114, ↓e_X9_digest_125, ↓e_X9_digest_136, ↓e_X9_digest_141, ↓e_X9_digest_146, ↓e_X9_digest_150, ↓e_X9_digest_156, ↓e_X9_digest_164, ↓e_X9_digest_167, ↓e_X9_digest_171, ↓e_X9_digest_178, ↓e_X9_digest_185, ↓e_X9_digest_188, ↓e_X9_digest_191, ↓e_X9_digest_198, ↓e_X9_digest_201, ↓e_X9_digest_204, ↓e_X9_digest_211, ↓e_X9_digest_217, ↓e_X9_digest_221, ↓e_X9_digest_227, ↓e_X9_digest_234, ↓e_X9_digest_237, ↓e_X9_digest_240, ↓e_X9_digest_245, ↓e_X9_digest_249, ↓e_X9_digest_253, ↓e_X9_digest_259, ↓e_X9_digest_266, ↓e_X9_digest_269, ↓e_X9_digest_272, ↓e_X9_digest_277, ↓e_X9_digest_281, ↓e_X9_digest_285, ↓e_X9_digest_291, ↓e_X9_digest_295, v9 o9_129, m_countOf E (d + 2) hi, m_notes, co, zps_s, zps_n, zk_i, zk_r, zk_l, zk_n, lt_lit (n := 5) (x := 5) (by decide) (show i < 2 ^ 31 by omega) (by decide), hi, ↓reduceIte, nI_1, set2L_2, set2L_s, m31])
  have l1 := fun w => itr_eq (fun i h => Ev E (d + 3) zm_X9_digest 32 [some (.ref 129), some (.int (nI i))] [] (HP (z.1, set2L z.2.1 129 21 h, z.2.2)) K) (dgP z) w np (fun i hi => by
    generalize itr _ i _ = h
    have a0 : (0 : Int32) + 3 * nI i = nI (3 * i) := by rw [Int32.zero_add]; exact nI_mul 3 i
    have a1 : (18 : Int32) + nI i = nI (18 + i) := nI_add 18 i
    have a2 : (24 : Int32) + nI i = nI (24 + i) := nI_add 24 i
    have a3 : (30 : Int32) + nI i = nI (30 + i) := nI_add 30 i
    have r0 := fun z => m_notesRow E (d + 1) (b := 3 * i) (n := 3) (by omega) z
    rw [show nI 3 = 3 from rfl] at r0
    rw [e_X9_digest_32]
    simp only [↓e_X9_digest_7, ↓e_X9_digest_14, ↓e_X9_digest_20, ↓e_X9_digest_24, ↓e_X9_digest_30, ↓e_X9_digest_37, ↓e_X9_digest_40, ↓e_X9_digest_43, ↓e_X9_digest_53, ↓e_X9_digest_58, ↓e_X9_digest_63, ↓e_X9_digest_67, ↓e_X9_digest_72, ↓e_X9_digest_77, ↓e_X9_digest_81, ↓e_X9_digest_86, ↓e_X9_digest_91, ↓e_X9_digest_95, ↓e_X9_digest_101, ↓e_X9_digest_108, ↓e_X9_digest_111, ↓e_X9_digest_114, ↓e_X9_digest_125, ↓e_X9_digest_136, ↓e_X9_digest_141, ↓e_X9_digest_146, ↓e_X9_digest_150, ↓e_X9_digest_156, ↓e_X9_digest_164, ↓e_X9_digest_167, ↓e_X9_digest_171, ↓e_X9_digest_178, ↓e_X9_digest_185, ↓e_X9_digest_188, ↓e_X9_digest_191, ↓e_X9_digest_198, ↓e_X9_digest_201, ↓e_X9_digest_204, ↓e_X9_digest_211, ↓e_X9_digest_217, ↓e_X9_digest_221, ↓e_X9_digest_227, ↓e_X9_digest_234, ↓e_X9_digest_237, ↓e_X9_digest_240, ↓e_X9_digest_245, ↓e_X9_digest_249, ↓e_X9_digest_253, ↓e_X9_digest_259, ↓e_X9_digest_266, ↓e_X9_digest_269, ↓e_X9_digest_272, ↓e_X9_digest_277, ↓e_X9_digest_281, ↓e_X9_digest_285, ↓e_X9_digest_291, ↓e_X9_digest_295, g9 o9_129, v9 o9_129, Nat.reduceAdd, stL, hp, a0, a1, a2, a3, st_k (show 18 + i < 1083 by omega), st_k (show 24 + i < 1083 by omega), st_k (show 30 + i < 1083 by omega), r0, m_notes, nr, zps_s, zps_n, zk_i, zk_r, zk_l, zk_n, nI_lt_iff (show i < 2 ^ 31 by omega) (show np < 2 ^ 31 by omega), hi, ↓reduceIte, nI_1, set2L_2, set2L_s, dgP]
    rfl)
  have l2 := fun w => itr_eq (fun i h => Ev E (d + 3) zm_X9_digest 103 [some (.ref 129), some (.int (nI i))] [] (HP (z.1, set2L z.2.1 129 21 h, z.2.2)) K) (dgC z) w nc (fun i hi => by
    generalize itr _ i _ = h
    have a0 : (36 : Int32) + 5 * nI i = nI (36 + 5 * i) := by
      have : (5 : Int32) * nI i = nI (5 * i) := nI_mul 5 i
      rw [this]
      exact nI_add 36 (5 * i)
    have a1 : (66 : Int32) + 3 * nI i = nI (66 + 3 * i) := by
      have : (3 : Int32) * nI i = nI (3 * i) := nI_mul 3 i
      rw [this]
      exact nI_add 66 (3 * i)
    have a3 : (84 : Int32) + nI i = nI (84 + i) := nI_add 84 i
    have r0 := fun z => m_notesRow E (d + 1) (b := 36 + 5 * i) (n := 5) (by omega) z
    have r1 := fun z => m_notesRow E (d + 1) (b := 66 + 3 * i) (n := 3) (by omega) z
    rw [show nI 5 = 5 from rfl] at r0
    rw [show nI 3 = 3 from rfl] at r1
    rw [e_X9_digest_103]
    simp only [↓e_X9_digest_7, ↓e_X9_digest_14, ↓e_X9_digest_20, ↓e_X9_digest_24, ↓e_X9_digest_30, ↓e_X9_digest_37, ↓e_X9_digest_40, ↓e_X9_digest_43, ↓e_X9_digest_53, ↓e_X9_digest_58, ↓e_X9_digest_63, ↓e_X9_digest_67, ↓e_X9_digest_72, ↓e_X9_digest_77, ↓e_X9_digest_81, ↓e_X9_digest_86, ↓e_X9_digest_91, ↓e_X9_digest_95, ↓e_X9_digest_101, ↓e_X9_digest_108, ↓e_X9_digest_111, ↓e_X9_digest_114, ↓e_X9_digest_125, ↓e_X9_digest_136, ↓e_X9_digest_141, ↓e_X9_digest_146, ↓e_X9_digest_150, ↓e_X9_digest_156, ↓e_X9_digest_164, ↓e_X9_digest_167, ↓e_X9_digest_171, ↓e_X9_digest_178, ↓e_X9_digest_185, ↓e_X9_digest_188, ↓e_X9_digest_191, ↓e_X9_digest_198, ↓e_X9_digest_201, ↓e_X9_digest_204, ↓e_X9_digest_211, ↓e_X9_digest_217, ↓e_X9_digest_221, ↓e_X9_digest_227, ↓e_X9_digest_234, ↓e_X9_digest_237, ↓e_X9_digest_240, ↓e_X9_digest_245, ↓e_X9_digest_249, ↓e_X9_digest_253, ↓e_X9_digest_259, ↓e_X9_digest_266, ↓e_X9_digest_269, ↓e_X9_digest_272, ↓e_X9_digest_277, ↓e_X9_digest_281, ↓e_X9_digest_285, ↓e_X9_digest_291, ↓e_X9_digest_295, g9 o9_129, v9 o9_129, Nat.reduceAdd, stL, hc, a0, a1, a3, st_k (show 84 + i < 1083 by omega), r0, r1, m_notes, nr, zps_s, zps_n, zk_i, zk_r, zk_l, zk_n, nI_lt_iff (show i < 2 ^ 31 by omega) (show nc < 2 ^ 31 by omega), hi, ↓reduceIte, nI_1, set2L_2, set2L_s, dgC]
    rfl)
  have l3 := fun w => itr_eq (fun i h => Ev E (d + 3) zm_X9_digest 206 [some (.ref 129), some (.int (nI i))] [] (HP (z.1, set2L z.2.1 129 21 h, z.2.2)) K) (fun k h => m31 h (dgS a b k)) w 3 (fun i hi => by
    generalize itr _ i _ = h
    have sg := fun h => m_signOf E (d + 1) ha hb hi (z := (z.1, set2L z.2.1 129 21 h, z.2.2)) (q1 h) (q2 h)
    rw [e_X9_digest_206]
    simp only [↓e_X9_digest_7, ↓e_X9_digest_14, ↓e_X9_digest_20, ↓e_X9_digest_24, ↓e_X9_digest_30, ↓e_X9_digest_37, ↓e_X9_digest_40, ↓e_X9_digest_43, ↓e_X9_digest_53, ↓e_X9_digest_58, ↓e_X9_digest_63, ↓e_X9_digest_67, ↓e_X9_digest_72, ↓e_X9_digest_77, ↓e_X9_digest_81, ↓e_X9_digest_86, ↓e_X9_digest_91, ↓e_X9_digest_95, ↓e_X9_digest_101, ↓e_X9_digest_108, ↓e_X9_digest_111, ↓e_X9_digest_114, ↓e_X9_digest_125, ↓e_X9_digest_136, ↓e_X9_digest_141, ↓e_X9_digest_146, ↓e_X9_digest_150, ↓e_X9_digest_156, ↓e_X9_digest_164, ↓e_X9_digest_167, ↓e_X9_digest_171, ↓e_X9_digest_178, ↓e_X9_digest_185, ↓e_X9_digest_188, ↓e_X9_digest_191, ↓e_X9_digest_198, ↓e_X9_digest_201, ↓e_X9_digest_204, ↓e_X9_digest_211, ↓e_X9_digest_217, ↓e_X9_digest_221, ↓e_X9_digest_227, ↓e_X9_digest_234, ↓e_X9_digest_237, ↓e_X9_digest_240, ↓e_X9_digest_245, ↓e_X9_digest_249, ↓e_X9_digest_253, ↓e_X9_digest_259, ↓e_X9_digest_266, ↓e_X9_digest_269, ↓e_X9_digest_272, ↓e_X9_digest_277, ↓e_X9_digest_281, ↓e_X9_digest_285, ↓e_X9_digest_291, ↓e_X9_digest_295, v9 o9_129, sg, m_notes, zps_s, zps_n, zk_i, zk_r, zk_l, zk_n, lt_lit (n := 3) (x := 3) (by decide) (show i < 2 ^ 31 by omega) (by decide), hi, ↓reduceIte, nI_1, set2L_2, set2L_s, m31, dgS])
  have l4 := fun w => itr_eq (fun i h => Ev E (d + 3) zm_X9_digest 229 [some (.ref 129), some (.int (nI i))] [] (HP (z.1, set2L z.2.1 129 21 h, z.2.2)) K) (lmF a) w (lbN a) (fun i hi => by
    generalize itr _ i _ = h
    have hl := lbN_le a
    rw [e_X9_digest_229]
    simp only [↓e_X9_digest_7, ↓e_X9_digest_14, ↓e_X9_digest_20, ↓e_X9_digest_24, ↓e_X9_digest_30, ↓e_X9_digest_37, ↓e_X9_digest_40, ↓e_X9_digest_43, ↓e_X9_digest_53, ↓e_X9_digest_58, ↓e_X9_digest_63, ↓e_X9_digest_67, ↓e_X9_digest_72, ↓e_X9_digest_77, ↓e_X9_digest_81, ↓e_X9_digest_86, ↓e_X9_digest_91, ↓e_X9_digest_95, ↓e_X9_digest_101, ↓e_X9_digest_108, ↓e_X9_digest_111, ↓e_X9_digest_114, ↓e_X9_digest_125, ↓e_X9_digest_136, ↓e_X9_digest_141, ↓e_X9_digest_146, ↓e_X9_digest_150, ↓e_X9_digest_156, ↓e_X9_digest_164, ↓e_X9_digest_167, ↓e_X9_digest_171, ↓e_X9_digest_178, ↓e_X9_digest_185, ↓e_X9_digest_188, ↓e_X9_digest_191, ↓e_X9_digest_198, ↓e_X9_digest_201, ↓e_X9_digest_204, ↓e_X9_digest_211, ↓e_X9_digest_217, ↓e_X9_digest_221, ↓e_X9_digest_227, ↓e_X9_digest_234, ↓e_X9_digest_237, ↓e_X9_digest_240, ↓e_X9_digest_245, ↓e_X9_digest_249, ↓e_X9_digest_253, ↓e_X9_digest_259, ↓e_X9_digest_266, ↓e_X9_digest_269, ↓e_X9_digest_272, ↓e_X9_digest_277, ↓e_X9_digest_281, ↓e_X9_digest_285, ↓e_X9_digest_291, ↓e_X9_digest_295, g9 o9_129, v9 o9_129, q1, m_limbs E (d + 2) ha, m_limbOf E (d + 2) (show i < 2 by omega) ha, m_notes, zps_s, zps_n, zk_i, zk_r, zk_l, zk_n, nI_lt_iff (show i < 2 ^ 31 by omega) (show lbN a < 2 ^ 31 by omega), hi, ↓reduceIte, nI_1, set2L_2, set2L_s, lmF, m31])
  have l5 := fun w => itr_eq (fun i h => Ev E (d + 3) zm_X9_digest 261 [some (.ref 129), some (.int (nI i))] [] (HP (z.1, set2L z.2.1 129 21 h, z.2.2)) K) (lmF b) w (lbN b) (fun i hi => by
    generalize itr _ i _ = h
    have hl := lbN_le b
    rw [e_X9_digest_261]
    simp only [↓e_X9_digest_7, ↓e_X9_digest_14, ↓e_X9_digest_20, ↓e_X9_digest_24, ↓e_X9_digest_30, ↓e_X9_digest_37, ↓e_X9_digest_40, ↓e_X9_digest_43, ↓e_X9_digest_53, ↓e_X9_digest_58, ↓e_X9_digest_63, ↓e_X9_digest_67, ↓e_X9_digest_72, ↓e_X9_digest_77, ↓e_X9_digest_81, ↓e_X9_digest_86, ↓e_X9_digest_91, ↓e_X9_digest_95, ↓e_X9_digest_101, ↓e_X9_digest_108, ↓e_X9_digest_111, ↓e_X9_digest_114, ↓e_X9_digest_125, ↓e_X9_digest_136, ↓e_X9_digest_141, ↓e_X9_digest_146, ↓e_X9_digest_150, ↓e_X9_digest_156, ↓e_X9_digest_164, ↓e_X9_digest_167, ↓e_X9_digest_171, ↓e_X9_digest_178, ↓e_X9_digest_185, ↓e_X9_digest_188, ↓e_X9_digest_191, ↓e_X9_digest_198, ↓e_X9_digest_201, ↓e_X9_digest_204, ↓e_X9_digest_211, ↓e_X9_digest_217, ↓e_X9_digest_221, ↓e_X9_digest_227, ↓e_X9_digest_234, ↓e_X9_digest_237, ↓e_X9_digest_240, ↓e_X9_digest_245, ↓e_X9_digest_249, ↓e_X9_digest_253, ↓e_X9_digest_259, ↓e_X9_digest_266, ↓e_X9_digest_269, ↓e_X9_digest_272, ↓e_X9_digest_277, ↓e_X9_digest_281, ↓e_X9_digest_285, ↓e_X9_digest_291, ↓e_X9_digest_295, g9 o9_129, v9 o9_129, q2, m_limbs E (d + 2) hb, m_limbOf E (d + 2) (show i < 2 by omega) hb, m_notes, zps_s, zps_n, zk_i, zk_r, zk_l, zk_n, nI_lt_iff (show i < 2 ^ 31 by omega) (show lbN b < 2 ^ 31 by omega), hi, ↓reduceIte, nI_1, set2L_2, set2L_s, lmF, m31])
  simp only [nI_0] at l0 l1 l2 l3 l4 l5
  have b1 := lbN_le a
  have b2 := lbN_le b
  have r1 := fun z => m_notesRow E (d + 1) (b := 90) (n := 2 * ns) (by omega) z
  have r2 := fun z => m_notesRow E (d + 1) (b := 107) (n := 2) (by omega) z
  have r3 := fun z => m_notesRow E (d + 1) (b := 121) (n := nl) (by omega) z
  have r4 := fun z => m_notesRow E (d + 1) (b := 110) (n := ny) (by omega) z
  rw [show nI 90 = 90 from rfl] at r1
  rw [show nI 107 = 107 from rfl, show nI 2 = 2 from rfl] at r2
  rw [show nI 121 = 121 from rfl] at r3
  rw [show nI 110 = 110 from rfl] at r4
  have e2 : (2 : Int32) * nI ns = nI (2 * ns) := nI_mul 2 ns
  simp only [↓c_X9_digest, ↓e_X9_digest_0, ↓e_X9_digest_7, ↓e_X9_digest_14, ↓e_X9_digest_20, ↓e_X9_digest_24, ↓e_X9_digest_30, ↓e_X9_digest_37, ↓e_X9_digest_40, ↓e_X9_digest_43, ↓e_X9_digest_53, ↓e_X9_digest_58, ↓e_X9_digest_63, ↓e_X9_digest_67, ↓e_X9_digest_72, ↓e_X9_digest_77, ↓e_X9_digest_81, ↓e_X9_digest_86, ↓e_X9_digest_91, ↓e_X9_digest_95, ↓e_X9_digest_101, ↓e_X9_digest_108, ↓e_X9_digest_111, ↓e_X9_digest_114, ↓e_X9_digest_125, ↓e_X9_digest_136, ↓e_X9_digest_141, ↓e_X9_digest_146, ↓e_X9_digest_150, ↓e_X9_digest_156, ↓e_X9_digest_164, ↓e_X9_digest_167, ↓e_X9_digest_171, ↓e_X9_digest_178, ↓e_X9_digest_185, ↓e_X9_digest_188, ↓e_X9_digest_191, ↓e_X9_digest_198, ↓e_X9_digest_201, ↓e_X9_digest_204, ↓e_X9_digest_211, ↓e_X9_digest_217, ↓e_X9_digest_221, ↓e_X9_digest_227, ↓e_X9_digest_234, ↓e_X9_digest_237, ↓e_X9_digest_240, ↓e_X9_digest_245, ↓e_X9_digest_249, ↓e_X9_digest_253, ↓e_X9_digest_259, ↓e_X9_digest_266, ↓e_X9_digest_269, ↓e_X9_digest_272, ↓e_X9_digest_277, ↓e_X9_digest_281, ↓e_X9_digest_285, ↓e_X9_digest_291, ↓e_X9_digest_295, p9 o9_129, zk_i, zk_r, zk_l, zk_n]
  rw [l0, e_X9_digest_9]
  simp only [↓e_X9_digest_7, ↓e_X9_digest_14, ↓e_X9_digest_20, ↓e_X9_digest_24, ↓e_X9_digest_30, ↓e_X9_digest_37, ↓e_X9_digest_40, ↓e_X9_digest_43, ↓e_X9_digest_53, ↓e_X9_digest_58, ↓e_X9_digest_63, ↓e_X9_digest_67, ↓e_X9_digest_72, ↓e_X9_digest_77, ↓e_X9_digest_81, ↓e_X9_digest_86, ↓e_X9_digest_91, ↓e_X9_digest_95, ↓e_X9_digest_101, ↓e_X9_digest_108, ↓e_X9_digest_111, ↓e_X9_digest_114, ↓e_X9_digest_125, ↓e_X9_digest_136, ↓e_X9_digest_141, ↓e_X9_digest_146, ↓e_X9_digest_150, ↓e_X9_digest_156, ↓e_X9_digest_164, ↓e_X9_digest_167, ↓e_X9_digest_171, ↓e_X9_digest_178, ↓e_X9_digest_185, ↓e_X9_digest_188, ↓e_X9_digest_191, ↓e_X9_digest_198, ↓e_X9_digest_201, ↓e_X9_digest_204, ↓e_X9_digest_211, ↓e_X9_digest_217, ↓e_X9_digest_221, ↓e_X9_digest_227, ↓e_X9_digest_234, ↓e_X9_digest_237, ↓e_X9_digest_240, ↓e_X9_digest_245, ↓e_X9_digest_249, ↓e_X9_digest_253, ↓e_X9_digest_259, ↓e_X9_digest_266, ↓e_X9_digest_269, ↓e_X9_digest_272, ↓e_X9_digest_277, ↓e_X9_digest_281, ↓e_X9_digest_285, ↓e_X9_digest_291, ↓e_X9_digest_295, lt_lit (n := 5) (x := 5) (by decide) (show 5 < 2 ^ 31 by decide) (by decide), Nat.lt_irrefl, ↓reduceIte, zk_i, zk_r, zk_l, zk_n]
  rw [l1, e_X9_digest_32]
  simp only [↓e_X9_digest_7, ↓e_X9_digest_14, ↓e_X9_digest_20, ↓e_X9_digest_24, ↓e_X9_digest_30, ↓e_X9_digest_37, ↓e_X9_digest_40, ↓e_X9_digest_43, ↓e_X9_digest_53, ↓e_X9_digest_58, ↓e_X9_digest_63, ↓e_X9_digest_67, ↓e_X9_digest_72, ↓e_X9_digest_77, ↓e_X9_digest_81, ↓e_X9_digest_86, ↓e_X9_digest_91, ↓e_X9_digest_95, ↓e_X9_digest_101, ↓e_X9_digest_108, ↓e_X9_digest_111, ↓e_X9_digest_114, ↓e_X9_digest_125, ↓e_X9_digest_136, ↓e_X9_digest_141, ↓e_X9_digest_146, ↓e_X9_digest_150, ↓e_X9_digest_156, ↓e_X9_digest_164, ↓e_X9_digest_167, ↓e_X9_digest_171, ↓e_X9_digest_178, ↓e_X9_digest_185, ↓e_X9_digest_188, ↓e_X9_digest_191, ↓e_X9_digest_198, ↓e_X9_digest_201, ↓e_X9_digest_204, ↓e_X9_digest_211, ↓e_X9_digest_217, ↓e_X9_digest_221, ↓e_X9_digest_227, ↓e_X9_digest_234, ↓e_X9_digest_237, ↓e_X9_digest_240, ↓e_X9_digest_245, ↓e_X9_digest_249, ↓e_X9_digest_253, ↓e_X9_digest_259, ↓e_X9_digest_266, ↓e_X9_digest_269, ↓e_X9_digest_272, ↓e_X9_digest_277, ↓e_X9_digest_281, ↓e_X9_digest_285, ↓e_X9_digest_291, ↓e_X9_digest_295, g9 o9_129, Nat.reduceAdd, stL, hp, nI_lt_iff (show np < 2 ^ 31 by omega) (show np < 2 ^ 31 by omega), Nat.lt_irrefl, ↓reduceIte, zk_i, zk_r, zk_l, zk_n]
  rw [l2, e_X9_digest_103]
  simp only [↓e_X9_digest_7, ↓e_X9_digest_14, ↓e_X9_digest_20, ↓e_X9_digest_24, ↓e_X9_digest_30, ↓e_X9_digest_37, ↓e_X9_digest_40, ↓e_X9_digest_43, ↓e_X9_digest_53, ↓e_X9_digest_58, ↓e_X9_digest_63, ↓e_X9_digest_67, ↓e_X9_digest_72, ↓e_X9_digest_77, ↓e_X9_digest_81, ↓e_X9_digest_86, ↓e_X9_digest_91, ↓e_X9_digest_95, ↓e_X9_digest_101, ↓e_X9_digest_108, ↓e_X9_digest_111, ↓e_X9_digest_114, ↓e_X9_digest_125, ↓e_X9_digest_136, ↓e_X9_digest_141, ↓e_X9_digest_146, ↓e_X9_digest_150, ↓e_X9_digest_156, ↓e_X9_digest_164, ↓e_X9_digest_167, ↓e_X9_digest_171, ↓e_X9_digest_178, ↓e_X9_digest_185, ↓e_X9_digest_188, ↓e_X9_digest_191, ↓e_X9_digest_198, ↓e_X9_digest_201, ↓e_X9_digest_204, ↓e_X9_digest_211, ↓e_X9_digest_217, ↓e_X9_digest_221, ↓e_X9_digest_227, ↓e_X9_digest_234, ↓e_X9_digest_237, ↓e_X9_digest_240, ↓e_X9_digest_245, ↓e_X9_digest_249, ↓e_X9_digest_253, ↓e_X9_digest_259, ↓e_X9_digest_266, ↓e_X9_digest_269, ↓e_X9_digest_272, ↓e_X9_digest_277, ↓e_X9_digest_281, ↓e_X9_digest_285, ↓e_X9_digest_291, ↓e_X9_digest_295, g9 o9_129, v9 o9_129, Nat.reduceAdd, stL, hc, hs, hl, hy, e2, r1, r2, r3, r4, nr, zps_n, set2L_2, set2L_s, nI_lt_iff (show nc < 2 ^ 31 by omega) (show nc < 2 ^ 31 by omega), Nat.lt_irrefl, ↓reduceIte, zk_i, zk_r, zk_l, zk_n]
  rw [l3, e_X9_digest_206]
  simp only [↓e_X9_digest_7, ↓e_X9_digest_14, ↓e_X9_digest_20, ↓e_X9_digest_24, ↓e_X9_digest_30, ↓e_X9_digest_37, ↓e_X9_digest_40, ↓e_X9_digest_43, ↓e_X9_digest_53, ↓e_X9_digest_58, ↓e_X9_digest_63, ↓e_X9_digest_67, ↓e_X9_digest_72, ↓e_X9_digest_77, ↓e_X9_digest_81, ↓e_X9_digest_86, ↓e_X9_digest_91, ↓e_X9_digest_95, ↓e_X9_digest_101, ↓e_X9_digest_108, ↓e_X9_digest_111, ↓e_X9_digest_114, ↓e_X9_digest_125, ↓e_X9_digest_136, ↓e_X9_digest_141, ↓e_X9_digest_146, ↓e_X9_digest_150, ↓e_X9_digest_156, ↓e_X9_digest_164, ↓e_X9_digest_167, ↓e_X9_digest_171, ↓e_X9_digest_178, ↓e_X9_digest_185, ↓e_X9_digest_188, ↓e_X9_digest_191, ↓e_X9_digest_198, ↓e_X9_digest_201, ↓e_X9_digest_204, ↓e_X9_digest_211, ↓e_X9_digest_217, ↓e_X9_digest_221, ↓e_X9_digest_227, ↓e_X9_digest_234, ↓e_X9_digest_237, ↓e_X9_digest_240, ↓e_X9_digest_245, ↓e_X9_digest_249, ↓e_X9_digest_253, ↓e_X9_digest_259, ↓e_X9_digest_266, ↓e_X9_digest_269, ↓e_X9_digest_272, ↓e_X9_digest_277, ↓e_X9_digest_281, ↓e_X9_digest_285, ↓e_X9_digest_291, ↓e_X9_digest_295, lt_lit (n := 3) (x := 3) (by decide) (show 3 < 2 ^ 31 by decide) (by decide), Nat.lt_irrefl, ↓reduceIte, zk_i, zk_r, zk_l, zk_n]
  rw [l4, e_X9_digest_229]
  simp only [↓e_X9_digest_7, ↓e_X9_digest_14, ↓e_X9_digest_20, ↓e_X9_digest_24, ↓e_X9_digest_30, ↓e_X9_digest_37, ↓e_X9_digest_40, ↓e_X9_digest_43, ↓e_X9_digest_53, ↓e_X9_digest_58, ↓e_X9_digest_63, ↓e_X9_digest_67, ↓e_X9_digest_72, ↓e_X9_digest_77, ↓e_X9_digest_81, ↓e_X9_digest_86, ↓e_X9_digest_91, ↓e_X9_digest_95, ↓e_X9_digest_101, ↓e_X9_digest_108, ↓e_X9_digest_111, ↓e_X9_digest_114, ↓e_X9_digest_125, ↓e_X9_digest_136, ↓e_X9_digest_141, ↓e_X9_digest_146, ↓e_X9_digest_150, ↓e_X9_digest_156, ↓e_X9_digest_164, ↓e_X9_digest_167, ↓e_X9_digest_171, ↓e_X9_digest_178, ↓e_X9_digest_185, ↓e_X9_digest_188, ↓e_X9_digest_191, ↓e_X9_digest_198, ↓e_X9_digest_201, ↓e_X9_digest_204, ↓e_X9_digest_211, ↓e_X9_digest_217, ↓e_X9_digest_221, ↓e_X9_digest_227, ↓e_X9_digest_234, ↓e_X9_digest_237, ↓e_X9_digest_240, ↓e_X9_digest_245, ↓e_X9_digest_249, ↓e_X9_digest_253, ↓e_X9_digest_259, ↓e_X9_digest_266, ↓e_X9_digest_269, ↓e_X9_digest_272, ↓e_X9_digest_277, ↓e_X9_digest_281, ↓e_X9_digest_285, ↓e_X9_digest_291, ↓e_X9_digest_295, g9 o9_129, v9 o9_129, q1, m_limbs E (d + 2) ha, zps_s, nI_lt_iff (show lbN a < 2 ^ 31 by omega) (show lbN a < 2 ^ 31 by omega), Nat.lt_irrefl, ↓reduceIte, zk_i, zk_r, zk_l, zk_n]
  rw [l5, e_X9_digest_261]
  simp only [↓e_X9_digest_7, ↓e_X9_digest_14, ↓e_X9_digest_20, ↓e_X9_digest_24, ↓e_X9_digest_30, ↓e_X9_digest_37, ↓e_X9_digest_40, ↓e_X9_digest_43, ↓e_X9_digest_53, ↓e_X9_digest_58, ↓e_X9_digest_63, ↓e_X9_digest_67, ↓e_X9_digest_72, ↓e_X9_digest_77, ↓e_X9_digest_81, ↓e_X9_digest_86, ↓e_X9_digest_91, ↓e_X9_digest_95, ↓e_X9_digest_101, ↓e_X9_digest_108, ↓e_X9_digest_111, ↓e_X9_digest_114, ↓e_X9_digest_125, ↓e_X9_digest_136, ↓e_X9_digest_141, ↓e_X9_digest_146, ↓e_X9_digest_150, ↓e_X9_digest_156, ↓e_X9_digest_164, ↓e_X9_digest_167, ↓e_X9_digest_171, ↓e_X9_digest_178, ↓e_X9_digest_185, ↓e_X9_digest_188, ↓e_X9_digest_191, ↓e_X9_digest_198, ↓e_X9_digest_201, ↓e_X9_digest_204, ↓e_X9_digest_211, ↓e_X9_digest_217, ↓e_X9_digest_221, ↓e_X9_digest_227, ↓e_X9_digest_234, ↓e_X9_digest_237, ↓e_X9_digest_240, ↓e_X9_digest_245, ↓e_X9_digest_249, ↓e_X9_digest_253, ↓e_X9_digest_259, ↓e_X9_digest_266, ↓e_X9_digest_269, ↓e_X9_digest_272, ↓e_X9_digest_277, ↓e_X9_digest_281, ↓e_X9_digest_285, ↓e_X9_digest_291, ↓e_X9_digest_295, g9 o9_129, v9 o9_129, q2, m_limbs E (d + 2) hb, zps_s, nI_lt_iff (show lbN b < 2 ^ 31 by omega) (show lbN b < 2 ^ 31 by omega), Nat.lt_irrefl, ↓reduceIte, zk_i, zk_r, zk_l, zk_n, set2L_s, dgZ]
theorem itr_s {σ : Type} (f : Nat → σ → σ) (n : Nat) (s : σ) : itr f (n + 1) s = f n (itr f n s) := rfl
theorem itr_z {σ : Type} (f : Nat → σ → σ) (s : σ) : itr f 0 s = s := rfl
theorem itr_two {σ : Type} (m : σ → Int32 → σ) (g : Nat → Int32) (n : Nat) (h : σ) : itr (fun i h => m h (g i)) (2 * n) h = itr (fun i h => m (m h (g (2 * i))) (g (2 * i + 1))) n h := by
  induction n with
  | zero => rw [Nat.mul_zero, itr_z, itr_z]
  | succ n ih => rw [show 2 * (n + 1) = 2 * n + 1 + 1 by omega, itr_s, itr_s, itr_s, ih]
theorem q_dg {z : zS} {np nc ns nl ny ch ea : Nat} (h : RT z.1 1 0 np nc ns nl ny ch ea) (a b : Nat) : fmZ a b (mxZ z 1 np nc ns nl ny 607) = dgZ z np nc ns nl ny a b := by
  obtain ⟨hc, hm, hn⟩ := rt_F h
  have e0 : itr (fun k h => m31 h (coM z (nI k))) 5 607 = m31 (m31 (m31 (m31 (m31 607 (nI np)) (nI nc)) (nI ns)) (nI ny)) (nI nl) := by
    show m31 (m31 (m31 (m31 (m31 607 (coM z (nI 0))) (coM z (nI 1))) (coM z (nI 2))) (coM z (nI 3))) (coM z (nI 4)) = _
    rw [show coM z (nI 0) = z.1 130 104 from rfl, show coM z (nI 1) = z.1 130 105 from rfl, show coM z (nI 2) = z.1 130 106 from rfl, show coM z (nI 3) = z.1 130 109 from rfl, show coM z (nI 4) = z.1 130 120 from rfl, hm.1, hm.2.1, hm.2.2.1, hm.2.2.2.2.2.1, hm.2.2.2.2.2.2]
  have e1 : ∀ w, itr (mxP z 1) np w = itr (dgP z) np w := fun w => itr_congr np (fun i hi => by
    generalize itr (dgP z) i w = x
    obtain ⟨p1, p2, p3, p4, p5, p6, -⟩ := rt_P h hi
    show m31 (m31 (m31 (m31 (m31 (m31 x (z.1 3 i)) (z.1 4 i)) (z.1 5 i)) (z.1 14 i)) (z.1 15 i)) (z.1 16 i) = _
    rw [p1, p2, p3, p4, p5, p6]
    rfl)
  have e2 : ∀ w, itr (mcF z (1 + 1) (1 + 16)) nc w = itr (dgC z) nc w := fun w => itr_congr nc (fun i hi => by
    generalize itr (dgC z) i w = x
    obtain ⟨c1, c2, c3, c4, c5, c6, c7, c8, c9, -⟩ := rt_C h hi
    show m31 (m31 (m31 (m31 (m31 (m31 (m31 (m31 (m31 x (z.1 6 i)) (z.1 7 i)) (z.1 8 i)) (z.1 9 i)) (z.1 10 i)) (z.1 11 (3 * i))) (z.1 11 (3 * i + 1))) (z.1 11 (3 * i + 2))) (z.1 17 i) = _
    rw [c1, c2, c3, c4, c5, c6, c7, c8, c9]
    rfl)
  have e3 : ∀ w, mxS z (1 + 1) ns w = itr (nrF z 90) (2 * ns) w := fun w => by
    refine Eq.trans ?_ (itr_two m31 (fun i => z.1 130 (90 + i)) ns w).symm
    refine itr_congr ns (fun i hi => ?_)
    generalize itr _ i w = x
    obtain ⟨c1, c2, -⟩ := rt_N h hi
    show m31 (m31 x (z.1 12 i)) (z.1 13 i) = _
    rw [c1, c2]
    rfl
  have e4 : ∀ w, itr (fun i h => m31 h (z.1 (1 + 17) i)) nl w = itr (nrF z 121) nl w := fun w => itr_congr nl (fun i hi => by
    generalize itr _ i w = x
    show m31 x (z.1 18 i) = m31 x (z.1 130 (121 + i))
    rw [(rt_B h hi).1])
  have e5 : ∀ w, itr (fun i h => m31 h (z.1 (1 + 18) i)) ny w = itr (nrF z 110) ny w := fun w => itr_congr ny (fun i hi => by
    generalize itr _ i w = x
    show m31 x (z.1 19 i) = m31 x (z.1 130 (110 + i))
    rw [(rt_Y h hi).1])
  have e6 : ∀ w, itr (nrF z 107) 2 w = m31 (m31 w (z.1 1 5)) (z.1 1 6) := fun w => by
    show m31 (m31 w (z.1 130 107)) (z.1 130 108) = _
    rw [hm.2.2.2.1, hm.2.2.2.2.1, hc.2.2.2.1, hc.2.2.2.2.1]
  unfold fmZ mxZ dgZ
  rw [e4, e5, e1, e2, e3, ← e6, e0]
  rfl
def OpL (E : zE) (d i j : Nat) (as : List Value) (z : zS) : Prop := ∃ v z1 z2, (∀ K, Cl E d i (.ref 0 :: as) (HP z) K = K (some (.long v)) (HP z1)) ∧ (∀ K, Cl E d j (.ref 129 :: as) (HP z1) K = K (some (.long v)) (HP z2)) ∧ Inv z2
theorem op_digest (E : zE) (d : Nat) {z : zS} (hI : Inv z) : OpL E (d + 3) 118 226 [] z := by
  obtain ⟨⟨np, nc, ns, nl, ny, ch, ea, h⟩, -⟩ := id hI
  obtain ⟨hc, hm, hn⟩ := rt_F h
  obtain ⟨a, b, ha, hb, f0, f1, f2, f3⟩ := frc_of hI
  refine ⟨dgZ z np nc ns nl ny a b, z, (z.1, set2L z.2.1 129 21 (dgZ z np nc ns nl ny a b), z.2.2), fun K => ?_, fun K => ?_, ?_⟩
  · have t := t_mix isT_1 (rt_wf h) hc.2.2.2.2.2.1 hc.2.2.2.2.2.2 hn.2.2.2.2.2.1 hn.2.2.2.2.2.2 E (d + 1) 607
    have f := f_mix o2_22 E d ha hb f0 f1 (mxZ z 1 np nc ns nl ny 607)
    simp only [↓c_X8_digest, ↓e_X8_digest_0, ↓e_X8_digest_4, ↓e_X8_digest_8, ↓e_X8_digest_14, ↓e_X8_digest_17, g8 o8_0, v7 o7_1, v2 o2_22, Nat.reduceAdd, t, f, q_dg h, zps_s, zk_i, zk_r, zk_n]
  · exact m_digest E d hm.1 hm.2.1 hm.2.2.1 hm.2.2.2.2.2.1 hm.2.2.2.2.2.2 hn.1 hn.2.1 hn.2.2.1 hn.2.2.2.2.2.1 hn.2.2.2.2.2.2 ha hb f2 f3 K
  · refine Inv_keep (z := z) (fun _ _ => rfl) (by dsimp only; rw [set2L_a (by decide)]) (by dsimp only; rw [set2L_n (Or.inr (by decide))]) (by dsimp only; rw [set2L_n (Or.inr (by decide))]) hI
