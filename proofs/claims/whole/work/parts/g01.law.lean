/-! THE LAW: its cases -/
theorem HP_scr (E : zE) (z : zS) : zar E (HP z) 1004 = some (.inl (0, E.1, .inl E.2)) := by
  have h : (HP z)[1004]? = none := List.getElem?_eq_none (by rw [HP_len, zlay_len]; omega)
  unfold zar
  rw [h]
  rfl
theorem scr_al (E : zE) (z : zS) (K : Int32 → Prop) : zal E (HP z) 1004 K = K (nI E.1) := by
  unfold zal
  rw [HP_scr]
  rfl
theorem scr_ri (E : zE) (z : zS) {j : Nat} (h : j < E.1) (hE : E.1 ≤ 3072) (K : Int32 → Prop) : zri E (HP z) 1004 (nI j) K = K (E.2 j) := by
  unfold zri
  rw [HP_scr]
  have e : (nI j).toNatClampNeg = j := nI_cl (by omega)
  show (if nI j < 0 ∨ E.1 ≤ (nI j).toNatClampNeg then False else K (E.2 (nI j).toNatClampNeg)) = K (E.2 j)
  rw [e, if_neg (fun q => q.elim (nI_pos (by omega)) (fun q => by omega))]
theorem ix_5 (n : Nat) : nI n + 5 = nI (n + 5) := by rw [show (5 : Int32) = nI 5 from by decide, nI_add]
theorem lw_0 (E : zE) (d : Nat) (hE : E.1 ≤ 3072) {z : zS} (hI : Inv z) {j : Nat} (hj : j + 6 ≤ E.1) {Q : Option Value → zH → Prop} (nx : ∀ z2, Inv z2 → Ev E (d + 11) zm_L_law 1057 [some (.ref 1004), some (.ref 0), some (.ref 129), some (.int (nI j))] [] (HP z2) Q) : Ev E (d + 11) zm_L_law 184 [some (.ref 1004), some (.ref 0), some (.ref 129), some (.int (nI j))] [] (HP z) Q := by
  have op : OpI E (d + 10) 85 134 [.long ((E.2 (j + 1)).toInt64 <<< (Int32.toInt64 32 &&& 63) ||| ((E.2 (j + 2)).toInt64 &&& 4294967295)), .int (E.2 (j + 3))] z := op_type E (d + 8) hI _ _
  obtain ⟨v, z1, z2, k1, k2, hI2⟩ := op
  have vv : (v = v) = True := eq_true rfl
  have s1 := fun z K => scr_ri E z (j := j + 1) (by omega) hE K
  have s2 := fun z K => scr_ri E z (j := j + 2) (by omega) hE K
  have s3 := fun z K => scr_ri E z (j := j + 3) (by omega) hE K
  simp only [↓e_L_law_184, ↓e_L_law_190, ↓e_L_law_199, ↓e_L_law_210, ↓e_L_law_213, ↓e_L_law_219, ↓e_L_law_228, ↓e_L_law_239, ↓e_L_law_242, ↓e_L_law_245, ix_1, ix_2, ix_3, s1, s2, s3, v8 o8_0, v9 o9_129, k1, k2, vv, zps_s, zk_i, zk_r, zk_n, ↓reduceIte]
  exact nx z2 hI2
theorem lw_1 (E : zE) (d : Nat) (hE : E.1 ≤ 3072) {z : zS} (hI : Inv z) {j : Nat} (hj : j + 6 ≤ E.1) {Q : Option Value → zH → Prop} (nx : ∀ z2, Inv z2 → Ev E (d + 11) zm_L_law 1057 [some (.ref 1004), some (.ref 0), some (.ref 129), some (.int (nI j))] [] (HP z2) Q) : Ev E (d + 11) zm_L_law 247 [some (.ref 1004), some (.ref 0), some (.ref 129), some (.int (nI j))] [] (HP z) Q := by
  have op : OpI E (d + 10) 86 135 [] z := op_clear E (d + 10) hI 
  obtain ⟨v, z1, z2, k1, k2, hI2⟩ := op
  have vv : (v = v) = True := eq_true rfl
  simp only [↓e_L_law_247, ↓e_L_law_251, ↓e_L_law_255, ↓e_L_law_258, v8 o8_0, v9 o9_129, k1, k2, vv, zps_s, zk_i, zk_r, zk_n, ↓reduceIte]
  exact nx z2 hI2
theorem lw_2 (E : zE) (d : Nat) (hE : E.1 ≤ 3072) {z : zS} (hI : Inv z) {j : Nat} (hj : j + 6 ≤ E.1) {Q : Option Value → zH → Prop} (nx : ∀ z2, Inv z2 → Ev E (d + 11) zm_L_law 1057 [some (.ref 1004), some (.ref 0), some (.ref 129), some (.int (nI j))] [] (HP z2) Q) : Ev E (d + 11) zm_L_law 260 [some (.ref 1004), some (.ref 0), some (.ref 129), some (.int (nI j))] [] (HP z) Q := by
  have op : OpI E (d + 10) 87 147 [] z := op_read E (d + 3) hI 
  obtain ⟨v, z1, z2, k1, k2, hI2⟩ := op
  have vv : (v = v) = True := eq_true rfl
  simp only [↓e_L_law_260, ↓e_L_law_264, ↓e_L_law_268, ↓e_L_law_271, v8 o8_0, v9 o9_129, k1, k2, vv, zps_s, zk_i, zk_r, zk_n, ↓reduceIte]
  exact nx z2 hI2
theorem lw_3 (E : zE) (d : Nat) (hE : E.1 ≤ 3072) {z : zS} (hI : Inv z) {j : Nat} (hj : j + 6 ≤ E.1) {Q : Option Value → zH → Prop} (nx : ∀ z2, Inv z2 → Ev E (d + 11) zm_L_law 1057 [some (.ref 1004), some (.ref 0), some (.ref 129), some (.int (nI j))] [] (HP z2) Q) : Ev E (d + 11) zm_L_law 273 [some (.ref 1004), some (.ref 0), some (.ref 129), some (.int (nI j))] [] (HP z) Q := by
  have op : OpI E (d + 10) 88 148 [.int (E.2 (j + 1)), .int (E.2 (j + 2))] z := op_put E (d + 8) hI _ _
  obtain ⟨v, z1, z2, k1, k2, hI2⟩ := op
  have vv : (v = v) = True := eq_true rfl
  have s1 := fun z K => scr_ri E z (j := j + 1) (by omega) hE K
  have s2 := fun z K => scr_ri E z (j := j + 2) (by omega) hE K
  simp only [↓e_L_law_273, ↓e_L_law_279, ↓e_L_law_284, ↓e_L_law_287, ↓e_L_law_293, ↓e_L_law_298, ↓e_L_law_301, ↓e_L_law_304, ix_1, ix_2, s1, s2, v8 o8_0, v9 o9_129, k1, k2, vv, zps_s, zk_i, zk_r, zk_n, ↓reduceIte]
  exact nx z2 hI2
theorem lw_4 (E : zE) (d : Nat) (hE : E.1 ≤ 3072) {z : zS} (hI : Inv z) {j : Nat} (hj : j + 6 ≤ E.1) {Q : Option Value → zH → Prop} (nx : ∀ z2, Inv z2 → Ev E (d + 11) zm_L_law 1057 [some (.ref 1004), some (.ref 0), some (.ref 129), some (.int (nI j))] [] (HP z2) Q) : Ev E (d + 11) zm_L_law 306 [some (.ref 1004), some (.ref 0), some (.ref 129), some (.int (nI j))] [] (HP z) Q := by
  have op : OpI E (d + 10) 89 155 [.int (E.2 (j + 1)), .int (E.2 (j + 2))] z := op_fit E (d + 7) hI _ _
  obtain ⟨v, z1, z2, k1, k2, hI2⟩ := op
  have vv : (v = v) = True := eq_true rfl
  have s1 := fun z K => scr_ri E z (j := j + 1) (by omega) hE K
  have s2 := fun z K => scr_ri E z (j := j + 2) (by omega) hE K
  simp only [↓e_L_law_306, ↓e_L_law_312, ↓e_L_law_317, ↓e_L_law_320, ↓e_L_law_326, ↓e_L_law_331, ↓e_L_law_334, ↓e_L_law_337, ix_1, ix_2, s1, s2, v8 o8_0, v9 o9_129, k1, k2, vv, zps_s, zk_i, zk_r, zk_n, ↓reduceIte]
  exact nx z2 hI2
theorem lw_5 (E : zE) (d : Nat) (hE : E.1 ≤ 3072) {z : zS} (hI : Inv z) {j : Nat} (hj : j + 6 ≤ E.1) {Q : Option Value → zH → Prop} (nx : ∀ z2, Inv z2 → Ev E (d + 11) zm_L_law 1057 [some (.ref 1004), some (.ref 0), some (.ref 129), some (.int (nI j))] [] (HP z2) Q) : Ev E (d + 11) zm_L_law 339 [some (.ref 1004), some (.ref 0), some (.ref 129), some (.int (nI j))] [] (HP z) Q := by
  have op : OpI E (d + 10) 90 158 [.int (E.2 (j + 1)), .int (E.2 (j + 2))] z := op_clash E (d + 6) hI _ _
  obtain ⟨v, z1, z2, k1, k2, hI2⟩ := op
  have vv : (v = v) = True := eq_true rfl
  have s1 := fun z K => scr_ri E z (j := j + 1) (by omega) hE K
  have s2 := fun z K => scr_ri E z (j := j + 2) (by omega) hE K
  simp only [↓e_L_law_339, ↓e_L_law_345, ↓e_L_law_350, ↓e_L_law_353, ↓e_L_law_359, ↓e_L_law_364, ↓e_L_law_367, ↓e_L_law_370, ix_1, ix_2, s1, s2, v8 o8_0, v9 o9_129, k1, k2, vv, zps_s, zk_i, zk_r, zk_n, ↓reduceIte]
  exact nx z2 hI2
theorem lw_6 (E : zE) (d : Nat) (hE : E.1 ≤ 3072) {z : zS} (hI : Inv z) {j : Nat} (hj : j + 6 ≤ E.1) {Q : Option Value → zH → Prop} (nx : ∀ z2, Inv z2 → Ev E (d + 11) zm_L_law 1057 [some (.ref 1004), some (.ref 0), some (.ref 129), some (.int (nI j))] [] (HP z2) Q) : Ev E (d + 11) zm_L_law 372 [some (.ref 1004), some (.ref 0), some (.ref 129), some (.int (nI j))] [] (HP z) Q := by
  have op : OpI E (d + 10) 91 166 [.int (E.2 (j + 1))] z := op_best E d hI _
  obtain ⟨v, z1, z2, k1, k2, hI2⟩ := op
  have vv : (v = v) = True := eq_true rfl
  have s1 := fun z K => scr_ri E z (j := j + 1) (by omega) hE K
  simp only [↓e_L_law_372, ↓e_L_law_378, ↓e_L_law_381, ↓e_L_law_387, ↓e_L_law_390, ↓e_L_law_393, ix_1, s1, v8 o8_0, v9 o9_129, k1, k2, vv, zps_s, zk_i, zk_r, zk_n, ↓reduceIte]
  exact nx z2 hI2
theorem lw_7 (E : zE) (d : Nat) (hE : E.1 ≤ 3072) {z : zS} (hI : Inv z) {j : Nat} (hj : j + 6 ≤ E.1) {Q : Option Value → zH → Prop} (nx : ∀ z2, Inv z2 → Ev E (d + 11) zm_L_law 1057 [some (.ref 1004), some (.ref 0), some (.ref 129), some (.int (nI j))] [] (HP z2) Q) : Ev E (d + 11) zm_L_law 395 [some (.ref 1004), some (.ref 0), some (.ref 129), some (.int (nI j))] [] (HP z) Q := by
  have op : OpI E (d + 10) 92 167 [] z := op_fewest E d hI 
  obtain ⟨v, z1, z2, k1, k2, hI2⟩ := op
  have vv : (v = v) = True := eq_true rfl
  simp only [↓e_L_law_395, ↓e_L_law_399, ↓e_L_law_403, ↓e_L_law_406, v8 o8_0, v9 o9_129, k1, k2, vv, zps_s, zk_i, zk_r, zk_n, ↓reduceIte]
  exact nx z2 hI2
theorem lw_8 (E : zE) (d : Nat) (hE : E.1 ≤ 3072) {z : zS} (hI : Inv z) {j : Nat} (hj : j + 6 ≤ E.1) {Q : Option Value → zH → Prop} (nx : ∀ z2, Inv z2 → Ev E (d + 11) zm_L_law 1057 [some (.ref 1004), some (.ref 0), some (.ref 129), some (.int (nI j))] [] (HP z2) Q) : Ev E (d + 11) zm_L_law 408 [some (.ref 1004), some (.ref 0), some (.ref 129), some (.int (nI j))] [] (HP z) Q := by
  have op : OpI E (d + 10) 93 169 [.int (E.2 (j + 1)), .int (E.2 (j + 2))] z := op_cast E (d + 7) hI _ _
  obtain ⟨v, z1, z2, k1, k2, hI2⟩ := op
  have vv : (v = v) = True := eq_true rfl
  have s1 := fun z K => scr_ri E z (j := j + 1) (by omega) hE K
  have s2 := fun z K => scr_ri E z (j := j + 2) (by omega) hE K
  simp only [↓e_L_law_408, ↓e_L_law_414, ↓e_L_law_419, ↓e_L_law_422, ↓e_L_law_428, ↓e_L_law_433, ↓e_L_law_436, ↓e_L_law_439, ix_1, ix_2, s1, s2, v8 o8_0, v9 o9_129, k1, k2, vv, zps_s, zk_i, zk_r, zk_n, ↓reduceIte]
  exact nx z2 hI2
theorem lw_9 (E : zE) (d : Nat) (hE : E.1 ≤ 3072) {z : zS} (hI : Inv z) {j : Nat} (hj : j + 6 ≤ E.1) {Q : Option Value → zH → Prop} (nx : ∀ z2, Inv z2 → Ev E (d + 11) zm_L_law 1057 [some (.ref 1004), some (.ref 0), some (.ref 129), some (.int (nI j))] [] (HP z2) Q) : Ev E (d + 11) zm_L_law 441 [some (.ref 1004), some (.ref 0), some (.ref 129), some (.int (nI j))] [] (HP z) Q := by
  have op : OpI E (d + 10) 94 170 [] z := op_takeBest E d hI 
  obtain ⟨v, z1, z2, k1, k2, hI2⟩ := op
  have vv : (v = v) = True := eq_true rfl
  simp only [↓e_L_law_441, ↓e_L_law_445, ↓e_L_law_449, ↓e_L_law_452, v8 o8_0, v9 o9_129, k1, k2, vv, zps_s, zk_i, zk_r, zk_n, ↓reduceIte]
  exact nx z2 hI2
theorem lw_10 (E : zE) (d : Nat) (hE : E.1 ≤ 3072) {z : zS} (hI : Inv z) {j : Nat} (hj : j + 6 ≤ E.1) {Q : Option Value → zH → Prop} (nx : ∀ z2, Inv z2 → Ev E (d + 11) zm_L_law 1057 [some (.ref 1004), some (.ref 0), some (.ref 129), some (.int (nI j))] [] (HP z2) Q) : Ev E (d + 11) zm_L_law 454 [some (.ref 1004), some (.ref 0), some (.ref 129), some (.int (nI j))] [] (HP z) Q := by
  have op : OpI E (d + 10) 95 178 [.int (E.2 (j + 1)), .int (E.2 (j + 2))] z := op_rehearse E (d + 7) hI _ _
  obtain ⟨v, z1, z2, k1, k2, hI2⟩ := op
  have vv : (v = v) = True := eq_true rfl
  have s1 := fun z K => scr_ri E z (j := j + 1) (by omega) hE K
  have s2 := fun z K => scr_ri E z (j := j + 2) (by omega) hE K
  simp only [↓e_L_law_454, ↓e_L_law_460, ↓e_L_law_465, ↓e_L_law_468, ↓e_L_law_474, ↓e_L_law_479, ↓e_L_law_482, ↓e_L_law_485, ix_1, ix_2, s1, s2, v8 o8_0, v9 o9_129, k1, k2, vv, zps_s, zk_i, zk_r, zk_n, ↓reduceIte]
  exact nx z2 hI2
theorem lw_11 (E : zE) (d : Nat) (hE : E.1 ≤ 3072) {z : zS} (hI : Inv z) {j : Nat} (hj : j + 6 ≤ E.1) {Q : Option Value → zH → Prop} (nx : ∀ z2, Inv z2 → Ev E (d + 11) zm_L_law 1057 [some (.ref 1004), some (.ref 0), some (.ref 129), some (.int (nI j))] [] (HP z2) Q) : Ev E (d + 11) zm_L_law 487 [some (.ref 1004), some (.ref 0), some (.ref 129), some (.int (nI j))] [] (HP z) Q := by
  have op : OpI E (d + 10) 96 179 [] z := op_night E (d + 8) hI 
  obtain ⟨v, z1, z2, k1, k2, hI2⟩ := op
  have vv : (v = v) = True := eq_true rfl
  simp only [↓e_L_law_487, ↓e_L_law_491, ↓e_L_law_495, ↓e_L_law_498, v8 o8_0, v9 o9_129, k1, k2, vv, zps_s, zk_i, zk_r, zk_n, ↓reduceIte]
  exact nx z2 hI2
theorem lw_12 (E : zE) (d : Nat) (hE : E.1 ≤ 3072) {z : zS} (hI : Inv z) {j : Nat} (hj : j + 6 ≤ E.1) {Q : Option Value → zH → Prop} (nx : ∀ z2, Inv z2 → Ev E (d + 11) zm_L_law 1057 [some (.ref 1004), some (.ref 0), some (.ref 129), some (.int (nI j))] [] (HP z2) Q) : Ev E (d + 11) zm_L_law 500 [some (.ref 1004), some (.ref 0), some (.ref 129), some (.int (nI j))] [] (HP z) Q := by
  have op : OpI E (d + 10) 97 180 [.int (E.2 (j + 1))] z := op_known E (d + 8) hI _
  obtain ⟨v, z1, z2, k1, k2, hI2⟩ := op
  have vv : (v = v) = True := eq_true rfl
  have s1 := fun z K => scr_ri E z (j := j + 1) (by omega) hE K
  simp only [↓e_L_law_500, ↓e_L_law_506, ↓e_L_law_509, ↓e_L_law_515, ↓e_L_law_518, ↓e_L_law_521, ix_1, s1, v8 o8_0, v9 o9_129, k1, k2, vv, zps_s, zk_i, zk_r, zk_n, ↓reduceIte]
  exact nx z2 hI2
theorem lw_13 (E : zE) (d : Nat) (hE : E.1 ≤ 3072) {z : zS} (hI : Inv z) {j : Nat} (hj : j + 6 ≤ E.1) {Q : Option Value → zH → Prop} (nx : ∀ z2, Inv z2 → Ev E (d + 11) zm_L_law 1057 [some (.ref 1004), some (.ref 0), some (.ref 129), some (.int (nI j))] [] (HP z2) Q) : Ev E (d + 11) zm_L_law 523 [some (.ref 1004), some (.ref 0), some (.ref 129), some (.int (nI j))] [] (HP z) Q := by
  have op : OpI E (d + 10) 98 181 [.int (E.2 (j + 1))] z := op_sat E (d + 8) hI _
  obtain ⟨v, z1, z2, k1, k2, hI2⟩ := op
  have vv : (v = v) = True := eq_true rfl
  have s1 := fun z K => scr_ri E z (j := j + 1) (by omega) hE K
  simp only [↓e_L_law_523, ↓e_L_law_529, ↓e_L_law_532, ↓e_L_law_538, ↓e_L_law_541, ↓e_L_law_544, ix_1, s1, v8 o8_0, v9 o9_129, k1, k2, vv, zps_s, zk_i, zk_r, zk_n, ↓reduceIte]
  exact nx z2 hI2
theorem lw_14 (E : zE) (d : Nat) (hE : E.1 ≤ 3072) {z : zS} (hI : Inv z) {j : Nat} (hj : j + 6 ≤ E.1) {Q : Option Value → zH → Prop} (nx : ∀ z2, Inv z2 → Ev E (d + 11) zm_L_law 1057 [some (.ref 1004), some (.ref 0), some (.ref 129), some (.int (nI j))] [] (HP z2) Q) : Ev E (d + 11) zm_L_law 546 [some (.ref 1004), some (.ref 0), some (.ref 129), some (.int (nI j))] [] (HP z) Q := by
  have op : OpI E (d + 10) 99 185 [.int (E.2 (j + 1))] z := op_slips E (d + 5) hI _
  obtain ⟨v, z1, z2, k1, k2, hI2⟩ := op
  have vv : (v = v) = True := eq_true rfl
  have s1 := fun z K => scr_ri E z (j := j + 1) (by omega) hE K
  simp only [↓e_L_law_546, ↓e_L_law_552, ↓e_L_law_555, ↓e_L_law_561, ↓e_L_law_564, ↓e_L_law_567, ix_1, s1, v8 o8_0, v9 o9_129, k1, k2, vv, zps_s, zk_i, zk_r, zk_n, ↓reduceIte]
  exact nx z2 hI2
theorem lw_15 (E : zE) (d : Nat) (hE : E.1 ≤ 3072) {z : zS} (hI : Inv z) {j : Nat} (hj : j + 6 ≤ E.1) {Q : Option Value → zH → Prop} (nx : ∀ z2, Inv z2 → Ev E (d + 11) zm_L_law 1057 [some (.ref 1004), some (.ref 0), some (.ref 129), some (.int (nI j))] [] (HP z2) Q) : Ev E (d + 11) zm_L_law 569 [some (.ref 1004), some (.ref 0), some (.ref 129), some (.int (nI j))] [] (HP z) Q := by
  have op : OpI E (d + 10) 100 186 [] z := op_cut E (d + 5) hI 
  obtain ⟨v, z1, z2, k1, k2, hI2⟩ := op
  have vv : (v = v) = True := eq_true rfl
  simp only [↓e_L_law_569, ↓e_L_law_573, ↓e_L_law_577, ↓e_L_law_580, v8 o8_0, v9 o9_129, k1, k2, vv, zps_s, zk_i, zk_r, zk_n, ↓reduceIte]
  exact nx z2 hI2
theorem lw_16 (E : zE) (d : Nat) (hE : E.1 ≤ 3072) {z : zS} (hI : Inv z) {j : Nat} (hj : j + 6 ≤ E.1) {Q : Option Value → zH → Prop} (nx : ∀ z2, Inv z2 → Ev E (d + 11) zm_L_law 1057 [some (.ref 1004), some (.ref 0), some (.ref 129), some (.int (nI j))] [] (HP z2) Q) : Ev E (d + 11) zm_L_law 582 [some (.ref 1004), some (.ref 0), some (.ref 129), some (.int (nI j))] [] (HP z) Q := by
  have op : OpI E (d + 10) 101 188 [.int (E.2 (j + 1)), .int (E.2 (j + 2)), .int (E.2 (j + 3))] z := op_plan E d hI _ _ _
  obtain ⟨v, z1, z2, k1, k2, hI2⟩ := op
  have vv : (v = v) = True := eq_true rfl
  have s1 := fun z K => scr_ri E z (j := j + 1) (by omega) hE K
  have s2 := fun z K => scr_ri E z (j := j + 2) (by omega) hE K
  have s3 := fun z K => scr_ri E z (j := j + 3) (by omega) hE K
  simp only [↓e_L_law_582, ↓e_L_law_588, ↓e_L_law_593, ↓e_L_law_598, ↓e_L_law_601, ↓e_L_law_607, ↓e_L_law_612, ↓e_L_law_617, ↓e_L_law_620, ↓e_L_law_623, ix_1, ix_2, ix_3, s1, s2, s3, v8 o8_0, v9 o9_129, k1, k2, vv, zps_s, zk_i, zk_r, zk_n, ↓reduceIte]
  exact nx z2 hI2
theorem lw_17 (E : zE) (d : Nat) (hE : E.1 ≤ 3072) {z : zS} (hI : Inv z) {j : Nat} (hj : j + 6 ≤ E.1) {Q : Option Value → zH → Prop} (nx : ∀ z2, Inv z2 → Ev E (d + 11) zm_L_law 1057 [some (.ref 1004), some (.ref 0), some (.ref 129), some (.int (nI j))] [] (HP z2) Q) : Ev E (d + 11) zm_L_law 625 [some (.ref 1004), some (.ref 0), some (.ref 129), some (.int (nI j))] [] (HP z) Q := by
  have op : OpI E (d + 10) 102 189 [.int (E.2 (j + 1)), .int (E.2 (j + 2))] z := op_behind E (d + 7) hI _ _
  obtain ⟨v, z1, z2, k1, k2, hI2⟩ := op
  have vv : (v = v) = True := eq_true rfl
  have s1 := fun z K => scr_ri E z (j := j + 1) (by omega) hE K
  have s2 := fun z K => scr_ri E z (j := j + 2) (by omega) hE K
  simp only [↓e_L_law_625, ↓e_L_law_631, ↓e_L_law_636, ↓e_L_law_639, ↓e_L_law_645, ↓e_L_law_650, ↓e_L_law_653, ↓e_L_law_656, ix_1, ix_2, s1, s2, v8 o8_0, v9 o9_129, k1, k2, vv, zps_s, zk_i, zk_r, zk_n, ↓reduceIte]
  exact nx z2 hI2
theorem lw_18 (E : zE) (d : Nat) (hE : E.1 ≤ 3072) {z : zS} (hI : Inv z) {j : Nat} (hj : j + 6 ≤ E.1) {Q : Option Value → zH → Prop} (nx : ∀ z2, Inv z2 → Ev E (d + 11) zm_L_law 1057 [some (.ref 1004), some (.ref 0), some (.ref 129), some (.int (nI j))] [] (HP z2) Q) : Ev E (d + 11) zm_L_law 658 [some (.ref 1004), some (.ref 0), some (.ref 129), some (.int (nI j))] [] (HP z) Q := by
  have op : OpI E (d + 10) 103 195 [] z := op_odds E (d + 4) hI 
  obtain ⟨v, z1, z2, k1, k2, hI2⟩ := op
  have vv : (v = v) = True := eq_true rfl
  simp only [↓e_L_law_658, ↓e_L_law_662, ↓e_L_law_666, ↓e_L_law_669, v8 o8_0, v9 o9_129, k1, k2, vv, zps_s, zk_i, zk_r, zk_n, ↓reduceIte]
  exact nx z2 hI2
theorem lw_19 (E : zE) (d : Nat) (hE : E.1 ≤ 3072) {z : zS} (hI : Inv z) {j : Nat} (hj : j + 6 ≤ E.1) {Q : Option Value → zH → Prop} (nx : ∀ z2, Inv z2 → Ev E (d + 11) zm_L_law 1057 [some (.ref 1004), some (.ref 0), some (.ref 129), some (.int (nI j))] [] (HP z2) Q) : Ev E (d + 11) zm_L_law 671 [some (.ref 1004), some (.ref 0), some (.ref 129), some (.int (nI j))] [] (HP z) Q := by
  have op : OpI E (d + 10) 104 197 [] z := op_next E (d + 4) hI 
  obtain ⟨v, z1, z2, k1, k2, hI2⟩ := op
  have vv : (v = v) = True := eq_true rfl
  simp only [↓e_L_law_671, ↓e_L_law_675, ↓e_L_law_679, ↓e_L_law_682, v8 o8_0, v9 o9_129, k1, k2, vv, zps_s, zk_i, zk_r, zk_n, ↓reduceIte]
  exact nx z2 hI2
theorem lw_20 (E : zE) (d : Nat) (hE : E.1 ≤ 3072) {z : zS} (hI : Inv z) {j : Nat} (hj : j + 6 ≤ E.1) {Q : Option Value → zH → Prop} (nx : ∀ z2, Inv z2 → Ev E (d + 11) zm_L_law 1057 [some (.ref 1004), some (.ref 0), some (.ref 129), some (.int (nI j))] [] (HP z2) Q) : Ev E (d + 11) zm_L_law 684 [some (.ref 1004), some (.ref 0), some (.ref 129), some (.int (nI j))] [] (HP z) Q := by
  have op : OpI E (d + 10) 105 198 [.int (E.2 (j + 1)), .int (E.2 (j + 2))] z := op_hot E d hI _ _
  obtain ⟨v, z1, z2, k1, k2, hI2⟩ := op
  have vv : (v = v) = True := eq_true rfl
  have s1 := fun z K => scr_ri E z (j := j + 1) (by omega) hE K
  have s2 := fun z K => scr_ri E z (j := j + 2) (by omega) hE K
  simp only [↓e_L_law_684, ↓e_L_law_690, ↓e_L_law_695, ↓e_L_law_698, ↓e_L_law_704, ↓e_L_law_709, ↓e_L_law_712, ↓e_L_law_715, ix_1, ix_2, s1, s2, v8 o8_0, v9 o9_129, k1, k2, vv, zps_s, zk_i, zk_r, zk_n, ↓reduceIte]
  exact nx z2 hI2
theorem lw_21 (E : zE) (d : Nat) (hE : E.1 ≤ 3072) {z : zS} (hI : Inv z) {j : Nat} (hj : j + 6 ≤ E.1) {Q : Option Value → zH → Prop} (nx : ∀ z2, Inv z2 → Ev E (d + 11) zm_L_law 1057 [some (.ref 1004), some (.ref 0), some (.ref 129), some (.int (nI j))] [] (HP z2) Q) : Ev E (d + 11) zm_L_law 717 [some (.ref 1004), some (.ref 0), some (.ref 129), some (.int (nI j))] [] (HP z) Q := by
  have op : OpI E (d + 10) 106 203 [.int (E.2 (j + 1)), .int (E.2 (j + 2))] z := op_lots E (d + 6) hI _ _
  obtain ⟨v, z1, z2, k1, k2, hI2⟩ := op
  have vv : (v = v) = True := eq_true rfl
  have s1 := fun z K => scr_ri E z (j := j + 1) (by omega) hE K
  have s2 := fun z K => scr_ri E z (j := j + 2) (by omega) hE K
  simp only [↓e_L_law_717, ↓e_L_law_723, ↓e_L_law_728, ↓e_L_law_731, ↓e_L_law_737, ↓e_L_law_742, ↓e_L_law_745, ↓e_L_law_748, ix_1, ix_2, s1, s2, v8 o8_0, v9 o9_129, k1, k2, vv, zps_s, zk_i, zk_r, zk_n, ↓reduceIte]
  exact nx z2 hI2
theorem lw_22 (E : zE) (d : Nat) (hE : E.1 ≤ 3072) {z : zS} (hI : Inv z) {j : Nat} (hj : j + 6 ≤ E.1) {Q : Option Value → zH → Prop} (nx : ∀ z2, Inv z2 → Ev E (d + 11) zm_L_law 1057 [some (.ref 1004), some (.ref 0), some (.ref 129), some (.int (nI j))] [] (HP z2) Q) : Ev E (d + 11) zm_L_law 750 [some (.ref 1004), some (.ref 0), some (.ref 129), some (.int (nI j))] [] (HP z) Q := by
  have op : OpI E (d + 10) 107 206 [.int (E.2 (j + 1))] z := op_gains E (d + 5) hI _
  obtain ⟨v, z1, z2, k1, k2, hI2⟩ := op
  have vv : (v = v) = True := eq_true rfl
  have s1 := fun z K => scr_ri E z (j := j + 1) (by omega) hE K
  simp only [↓e_L_law_750, ↓e_L_law_756, ↓e_L_law_759, ↓e_L_law_765, ↓e_L_law_768, ↓e_L_law_771, ix_1, s1, v8 o8_0, v9 o9_129, k1, k2, vv, zps_s, zk_i, zk_r, zk_n, ↓reduceIte]
  exact nx z2 hI2
theorem lw_23 (E : zE) (d : Nat) (hE : E.1 ≤ 3072) {z : zS} (hI : Inv z) {j : Nat} (hj : j + 6 ≤ E.1) {Q : Option Value → zH → Prop} (nx : ∀ z2, Inv z2 → Ev E (d + 11) zm_L_law 1057 [some (.ref 1004), some (.ref 0), some (.ref 129), some (.int (nI j))] [] (HP z2) Q) : Ev E (d + 11) zm_L_law 773 [some (.ref 1004), some (.ref 0), some (.ref 129), some (.int (nI j))] [] (HP z) Q := by
  have op : OpI E (d + 10) 108 208 [.int (E.2 (j + 1)), .int (E.2 (j + 2)), .int (E.2 (j + 3)), .int (E.2 (j + 4)), .int (E.2 (j + 5))] z := op_tried E (d + 7) hI _ _ _ _ _
  obtain ⟨v, z1, z2, k1, k2, hI2⟩ := op
  have vv : (v = v) = True := eq_true rfl
  have s1 := fun z K => scr_ri E z (j := j + 1) (by omega) hE K
  have s2 := fun z K => scr_ri E z (j := j + 2) (by omega) hE K
  have s3 := fun z K => scr_ri E z (j := j + 3) (by omega) hE K
  have s4 := fun z K => scr_ri E z (j := j + 4) (by omega) hE K
  have s5 := fun z K => scr_ri E z (j := j + 5) (by omega) hE K
  simp only [↓e_L_law_773, ↓e_L_law_779, ↓e_L_law_784, ↓e_L_law_789, ↓e_L_law_794, ↓e_L_law_799, ↓e_L_law_802, ↓e_L_law_808, ↓e_L_law_813, ↓e_L_law_818, ↓e_L_law_823, ↓e_L_law_828, ↓e_L_law_831, ↓e_L_law_834, ix_1, ix_2, ix_3, ix_4, ix_5, s1, s2, s3, s4, s5, v8 o8_0, v9 o9_129, k1, k2, vv, zps_s, zk_i, zk_r, zk_n, ↓reduceIte]
  exact nx z2 hI2
theorem lw_24 (E : zE) (d : Nat) (hE : E.1 ≤ 3072) {z : zS} (hI : Inv z) {j : Nat} (hj : j + 6 ≤ E.1) {Q : Option Value → zH → Prop} (nx : ∀ z2, Inv z2 → Ev E (d + 11) zm_L_law 1057 [some (.ref 1004), some (.ref 0), some (.ref 129), some (.int (nI j))] [] (HP z2) Q) : Ev E (d + 11) zm_L_law 836 [some (.ref 1004), some (.ref 0), some (.ref 129), some (.int (nI j))] [] (HP z) Q := by
  have op : OpI E (d + 10) 109 209 [.int (E.2 (j + 1))] z := op_year E (d + 8) hI _
  obtain ⟨v, z1, z2, k1, k2, hI2⟩ := op
  have vv : (v = v) = True := eq_true rfl
  have s1 := fun z K => scr_ri E z (j := j + 1) (by omega) hE K
  simp only [↓e_L_law_836, ↓e_L_law_842, ↓e_L_law_845, ↓e_L_law_851, ↓e_L_law_854, ↓e_L_law_857, ix_1, s1, v8 o8_0, v9 o9_129, k1, k2, vv, zps_s, zk_i, zk_r, zk_n, ↓reduceIte]
  exact nx z2 hI2
theorem lw_25 (E : zE) (d : Nat) (hE : E.1 ≤ 3072) {z : zS} (hI : Inv z) {j : Nat} (hj : j + 6 ≤ E.1) {Q : Option Value → zH → Prop} (nx : ∀ z2, Inv z2 → Ev E (d + 11) zm_L_law 1057 [some (.ref 1004), some (.ref 0), some (.ref 129), some (.int (nI j))] [] (HP z2) Q) : Ev E (d + 11) zm_L_law 859 [some (.ref 1004), some (.ref 0), some (.ref 129), some (.int (nI j))] [] (HP z) Q := by
  have op : OpI E (d + 10) 110 210 [] z := op_forget E (d + 10) hI 
  obtain ⟨v, z1, z2, k1, k2, hI2⟩ := op
  have vv : (v = v) = True := eq_true rfl
  simp only [↓e_L_law_859, ↓e_L_law_863, ↓e_L_law_867, ↓e_L_law_870, v8 o8_0, v9 o9_129, k1, k2, vv, zps_s, zk_i, zk_r, zk_n, ↓reduceIte]
  exact nx z2 hI2
theorem lw_26 (E : zE) (d : Nat) (hE : E.1 ≤ 3072) {z : zS} (hI : Inv z) {j : Nat} (hj : j + 6 ≤ E.1) {Q : Option Value → zH → Prop} (nx : ∀ z2, Inv z2 → Ev E (d + 11) zm_L_law 1057 [some (.ref 1004), some (.ref 0), some (.ref 129), some (.int (nI j))] [] (HP z2) Q) : Ev E (d + 11) zm_L_law 872 [some (.ref 1004), some (.ref 0), some (.ref 129), some (.int (nI j))] [] (HP z) Q := by
  have op : OpI E (d + 10) 111 212 [.int (E.2 (j + 1))] z := op_leans E (d + 7) hI _
  obtain ⟨v, z1, z2, k1, k2, hI2⟩ := op
  have vv : (v = v) = True := eq_true rfl
  have s1 := fun z K => scr_ri E z (j := j + 1) (by omega) hE K
  simp only [↓e_L_law_872, ↓e_L_law_878, ↓e_L_law_881, ↓e_L_law_887, ↓e_L_law_890, ↓e_L_law_893, ix_1, s1, v8 o8_0, v9 o9_129, k1, k2, vv, zps_s, zk_i, zk_r, zk_n, ↓reduceIte]
  exact nx z2 hI2
theorem lw_27 (E : zE) (d : Nat) (hE : E.1 ≤ 3072) {z : zS} (hI : Inv z) {j : Nat} (hj : j + 6 ≤ E.1) {Q : Option Value → zH → Prop} (nx : ∀ z2, Inv z2 → Ev E (d + 11) zm_L_law 1057 [some (.ref 1004), some (.ref 0), some (.ref 129), some (.int (nI j))] [] (HP z2) Q) : Ev E (d + 11) zm_L_law 895 [some (.ref 1004), some (.ref 0), some (.ref 129), some (.int (nI j))] [] (HP z) Q := by
  have op : OpI E (d + 10) 112 216 [.int (E.2 (j + 1))] z := op_sign E (d + 8) hI _
  obtain ⟨v, z1, z2, k1, k2, hI2⟩ := op
  have vv : (v = v) = True := eq_true rfl
  have s1 := fun z K => scr_ri E z (j := j + 1) (by omega) hE K
  simp only [↓e_L_law_895, ↓e_L_law_901, ↓e_L_law_904, ↓e_L_law_910, ↓e_L_law_913, ↓e_L_law_916, ix_1, s1, v8 o8_0, v9 o9_129, k1, k2, vv, zps_s, zk_i, zk_r, zk_n, ↓reduceIte]
  exact nx z2 hI2
theorem lw_28 (E : zE) (d : Nat) (hE : E.1 ≤ 3072) {z : zS} (hI : Inv z) {j : Nat} (hj : j + 6 ≤ E.1) {Q : Option Value → zH → Prop} (nx : ∀ z2, Inv z2 → Ev E (d + 11) zm_L_law 1057 [some (.ref 1004), some (.ref 0), some (.ref 129), some (.int (nI j))] [] (HP z2) Q) : Ev E (d + 11) zm_L_law 918 [some (.ref 1004), some (.ref 0), some (.ref 129), some (.int (nI j))] [] (HP z) Q := by
  have op : OpI E (d + 10) 113 217 [.int (E.2 (j + 1)), .int (E.2 (j + 2))] z := op_limb E (d + 7) hI _ _
  obtain ⟨v, z1, z2, k1, k2, hI2⟩ := op
  have vv : (v = v) = True := eq_true rfl
  have s1 := fun z K => scr_ri E z (j := j + 1) (by omega) hE K
  have s2 := fun z K => scr_ri E z (j := j + 2) (by omega) hE K
  simp only [↓e_L_law_918, ↓e_L_law_924, ↓e_L_law_929, ↓e_L_law_932, ↓e_L_law_938, ↓e_L_law_943, ↓e_L_law_946, ↓e_L_law_949, ix_1, ix_2, s1, s2, v8 o8_0, v9 o9_129, k1, k2, vv, zps_s, zk_i, zk_r, zk_n, ↓reduceIte]
  exact nx z2 hI2
theorem lw_29 (E : zE) (d : Nat) (hE : E.1 ≤ 3072) {z : zS} (hI : Inv z) {j : Nat} (hj : j + 6 ≤ E.1) {Q : Option Value → zH → Prop} (nx : ∀ z2, Inv z2 → Ev E (d + 11) zm_L_law 1057 [some (.ref 1004), some (.ref 0), some (.ref 129), some (.int (nI j))] [] (HP z2) Q) : Ev E (d + 11) zm_L_law 951 [some (.ref 1004), some (.ref 0), some (.ref 129), some (.int (nI j))] [] (HP z) Q := by
  have op : OpI E (d + 10) 114 219 [.int (E.2 (j + 1))] z := op_image E (d + 8) hI _
  obtain ⟨v, z1, z2, k1, k2, hI2⟩ := op
  have vv : (v = v) = True := eq_true rfl
  have s1 := fun z K => scr_ri E z (j := j + 1) (by omega) hE K
  simp only [↓e_L_law_951, ↓e_L_law_957, ↓e_L_law_960, ↓e_L_law_966, ↓e_L_law_969, ↓e_L_law_972, ix_1, s1, v8 o8_0, v9 o9_129, k1, k2, vv, zps_s, zk_i, zk_r, zk_n, ↓reduceIte]
  exact nx z2 hI2
theorem lw_30 (E : zE) (d : Nat) (hE : E.1 ≤ 3072) {z : zS} (hI : Inv z) {j : Nat} (hj : j + 6 ≤ E.1) {Q : Option Value → zH → Prop} (nx : ∀ z2, Inv z2 → Ev E (d + 11) zm_L_law 1057 [some (.ref 1004), some (.ref 0), some (.ref 129), some (.int (nI j))] [] (HP z2) Q) : Ev E (d + 11) zm_L_law 974 [some (.ref 1004), some (.ref 0), some (.ref 129), some (.int (nI j))] [] (HP z) Q := by
  have op : OpI E (d + 10) 115 220 [.int (E.2 (j + 1))] z := op_from E (d + 8) hI _
  obtain ⟨v, z1, z2, k1, k2, hI2⟩ := op
  have vv : (v = v) = True := eq_true rfl
  have s1 := fun z K => scr_ri E z (j := j + 1) (by omega) hE K
  simp only [↓e_L_law_974, ↓e_L_law_980, ↓e_L_law_983, ↓e_L_law_989, ↓e_L_law_992, ↓e_L_law_995, ix_1, s1, v8 o8_0, v9 o9_129, k1, k2, vv, zps_s, zk_i, zk_r, zk_n, ↓reduceIte]
  exact nx z2 hI2
theorem lw_31 (E : zE) (d : Nat) (hE : E.1 ≤ 3072) {z : zS} (hI : Inv z) {j : Nat} (hj : j + 6 ≤ E.1) {Q : Option Value → zH → Prop} (nx : ∀ z2, Inv z2 → Ev E (d + 11) zm_L_law 1057 [some (.ref 1004), some (.ref 0), some (.ref 129), some (.int (nI j))] [] (HP z2) Q) : Ev E (d + 11) zm_L_law 997 [some (.ref 1004), some (.ref 0), some (.ref 129), some (.int (nI j))] [] (HP z) Q := by
  have op : OpI E (d + 10) 116 221 [.int (E.2 (j + 1))] z := op_status E (d + 9) hI _
  obtain ⟨v, z1, z2, k1, k2, hI2⟩ := op
  have vv : (v = v) = True := eq_true rfl
  have s1 := fun z K => scr_ri E z (j := j + 1) (by omega) hE K
  simp only [↓e_L_law_997, ↓e_L_law_1003, ↓e_L_law_1006, ↓e_L_law_1012, ↓e_L_law_1015, ↓e_L_law_1018, ix_1, s1, v8 o8_0, v9 o9_129, k1, k2, vv, zps_s, zk_i, zk_r, zk_n, ↓reduceIte]
  exact nx z2 hI2
theorem lw_32 (E : zE) (d : Nat) (hE : E.1 ≤ 3072) {z : zS} (hI : Inv z) {j : Nat} (hj : j + 6 ≤ E.1) {Q : Option Value → zH → Prop} (nx : ∀ z2, Inv z2 → Ev E (d + 11) zm_L_law 1057 [some (.ref 1004), some (.ref 0), some (.ref 129), some (.int (nI j))] [] (HP z2) Q) : Ev E (d + 11) zm_L_law 1020 [some (.ref 1004), some (.ref 0), some (.ref 129), some (.int (nI j))] [] (HP z) Q := by
  have op : OpI E (d + 10) 117 223 [.int (E.2 (j + 1))] z := op_count E (d + 8) hI _
  obtain ⟨v, z1, z2, k1, k2, hI2⟩ := op
  have vv : (v = v) = True := eq_true rfl
  have s1 := fun z K => scr_ri E z (j := j + 1) (by omega) hE K
  simp only [↓e_L_law_1020, ↓e_L_law_1026, ↓e_L_law_1029, ↓e_L_law_1035, ↓e_L_law_1038, ↓e_L_law_1041, ix_1, s1, v8 o8_0, v9 o9_129, k1, k2, vv, zps_s, zk_i, zk_r, zk_n, ↓reduceIte]
  exact nx z2 hI2
theorem lw_33 (E : zE) (d : Nat) (hE : E.1 ≤ 3072) {z : zS} (hI : Inv z) {j : Nat} (hj : j + 6 ≤ E.1) {Q : Option Value → zH → Prop} (nx : ∀ z2, Inv z2 → Ev E (d + 11) zm_L_law 1057 [some (.ref 1004), some (.ref 0), some (.ref 129), some (.int (nI j))] [] (HP z2) Q) : Ev E (d + 11) zm_L_law 1043 [some (.ref 1004), some (.ref 0), some (.ref 129), some (.int (nI j))] [] (HP z) Q := by
  have op : OpL E (d + 10) 118 226 [] z := op_digest E (d + 7) hI 
  obtain ⟨v, z1, z2, k1, k2, hI2⟩ := op
  have vv : (lg_cmp v v = 0) = True := eq_true ((lg_cmp_eq v v).mpr rfl)
  simp only [↓e_L_law_1043, ↓e_L_law_1047, ↓e_L_law_1051, ↓e_L_law_1055, v8 o8_0, v9 o9_129, k1, k2, vv, zps_s, zk_i, zk_r, zk_n, ↓reduceIte]
  exact nx z2 hI2
theorem zsw_in (x : Int32) (df : Nat) : ∀ (T : List Nat) (u : Int32), zsw x df u T ∈ df :: T
  | [], _ => List.mem_cons_self
  | t :: T, u => by
    show (if x = u then t else zsw x df (u + 1) T) ∈ df :: t :: T
    by_cases q : x = u
    · rw [if_pos q]
      exact List.mem_cons_of_mem _ List.mem_cons_self
    · rw [if_neg q]
      rcases List.mem_cons.mp (zsw_in x df T (u + 1)) with h | h
      · rw [h]
        exact List.mem_cons_self
      · exact List.mem_cons_of_mem _ (List.mem_cons_of_mem _ h)
def zss (s : zSh) : Nat := match s with
  | .inl (_, n, _) => n
  | .inr (ci, _) => zNf ci
theorem zcs_cell (z : zS) (o : Nat) (s : zSh) : zcs (zcell z o s) = zss s := by
  cases s with
  | inl x =>
    obtain ⟨t, n, rs⟩ := x
    rcases t with _ | _ | _ | _ | _ | t <;> rfl
  | inr x => rfl
theorem zsz_HP (z : zS) : zsz (HP z) ≤ 1000000 := by
  have h : (HP z).map zcs = zlay.map zss := by
    refine List.ext_getElem? (fun k => ?_)
    rw [List.getElem?_map, List.getElem?_map]
    unfold HP
    rw [List.getElem?_mapIdx]
    cases zlay[k]? with
    | none => rfl
    | some s => exact congrArg some (zcs_cell z k s)
  unfold zsz
  rw [h]
  decide +kernel
def zEnd : Option Value → zH → Prop := fun r h => r = some (.int 1) ∧ h.length ≤ 1000 ∧ zsz h ≤ 1000000
theorem law_loop (E : zE) (d : Nat) (hE : E.1 ≤ 3072) : ∀ n k (z : zS), Inv z → E.1 < 6 * k + 6 * n + 6 → 6 * k ≤ 3072 → Ev E (d + 11) zm_L_law 18 [some (.ref 1004), some (.ref 0), some (.ref 129), some (.int (nI (6 * k)))] [] (HP z) zEnd := by
  intro n
  have ex : ∀ k (z : zS), E.1 < 6 * k + 6 → 6 * k ≤ 3072 → Ev E (d + 11) zm_L_law 18 [some (.ref 1004), some (.ref 0), some (.ref 129), some (.int (nI (6 * k)))] [] (HP z) zEnd := fun k z h1 h2 => by
    have c : (nI E.1 - 6 < nI (6 * k)) = True := eq_true (by
      rw [iI_n E.1, iI_n (6 * k), show (6 : Int32) = iI 6 from by decide, iI_sub, iI_lt (by omega) (by omega) (by omega) (by omega)]
      omega)
    have q : zEnd (some (.int 1)) (HP z) := ⟨rfl, by rw [HP_len, zlay_len]; omega, zsz_HP z⟩
    rw [e_L_law_18]
    simp only [↓e_L_law_21, ↓e_L_law_1063, scr_al, c, q, or_true, true_and, zk_i, zk_r, zk_n, ↓reduceIte]
  induction n with
  | zero => exact fun k z _ h1 h2 => ex k z (by omega) h2
  | succ n ih =>
    intro k z hI h1 h2
    by_cases q : E.1 < 6 * k + 6
    · exact ex k z q h2
    · have c : (nI E.1 - 6 < nI (6 * k)) = False := eq_false (by
        rw [iI_n E.1, iI_n (6 * k), show (6 : Int32) = iI 6 from by decide, iI_sub, iI_lt (by omega) (by omega) (by omega) (by omega)]
        omega)
      have hj : 6 * k + 6 ≤ E.1 := by omega
      have nx : ∀ z2, Inv z2 → Ev E (d + 11) zm_L_law 1057 [some (.ref 1004), some (.ref 0), some (.ref 129), some (.int (nI (6 * k)))] [] (HP z2) zEnd := fun z2 hI2 => by
        have := ih (k + 1) z2 hI2 (by omega) (by omega)
        have e6 : nI (6 * k) + 6 = nI (6 * (k + 1)) := by rw [show (6 : Int32) = nI 6 from by decide, nI_add, show 6 * k + 6 = 6 * (k + 1) by omega]
        rw [e_L_law_1057, e6]
        exact this
      have all : ∀ pc, pc ∈ (1057 :: [184, 247, 260, 273, 306, 339, 372, 395, 408, 441, 454, 487, 500, 523, 546, 569, 582, 625, 658, 671, 684, 717, 750, 773, 836, 859, 872, 895, 918, 951, 974, 997, 1020, 1043] : List Nat) → Ev E (d + 11) zm_L_law pc [some (.ref 1004), some (.ref 0), some (.ref 129), some (.int (nI (6 * k)))] [] (HP z) zEnd := fun pc hpc => by
        simp only [List.mem_cons, List.not_mem_nil, or_false] at hpc
        rcases hpc with rfl | rfl | rfl | rfl | rfl | rfl | rfl | rfl | rfl | rfl | rfl | rfl | rfl | rfl | rfl | rfl | rfl | rfl | rfl | rfl | rfl | rfl | rfl | rfl | rfl | rfl | rfl | rfl | rfl | rfl | rfl | rfl | rfl | rfl | rfl
        · exact nx z hI
        · exact lw_0 E d hE hI hj nx
        · exact lw_1 E d hE hI hj nx
        · exact lw_2 E d hE hI hj nx
        · exact lw_3 E d hE hI hj nx
        · exact lw_4 E d hE hI hj nx
        · exact lw_5 E d hE hI hj nx
        · exact lw_6 E d hE hI hj nx
        · exact lw_7 E d hE hI hj nx
        · exact lw_8 E d hE hI hj nx
        · exact lw_9 E d hE hI hj nx
        · exact lw_10 E d hE hI hj nx
        · exact lw_11 E d hE hI hj nx
        · exact lw_12 E d hE hI hj nx
        · exact lw_13 E d hE hI hj nx
        · exact lw_14 E d hE hI hj nx
        · exact lw_15 E d hE hI hj nx
        · exact lw_16 E d hE hI hj nx
        · exact lw_17 E d hE hI hj nx
        · exact lw_18 E d hE hI hj nx
        · exact lw_19 E d hE hI hj nx
        · exact lw_20 E d hE hI hj nx
        · exact lw_21 E d hE hI hj nx
        · exact lw_22 E d hE hI hj nx
        · exact lw_23 E d hE hI hj nx
        · exact lw_24 E d hE hI hj nx
        · exact lw_25 E d hE hI hj nx
        · exact lw_26 E d hE hI hj nx
        · exact lw_27 E d hE hI hj nx
        · exact lw_28 E d hE hI hj nx
        · exact lw_29 E d hE hI hj nx
        · exact lw_30 E d hE hI hj nx
        · exact lw_31 E d hE hI hj nx
        · exact lw_32 E d hE hI hj nx
        · exact lw_33 E d hE hI hj nx
      have s0 := fun K => scr_ri E z (j := 6 * k) (by omega) hE K
      rw [e_L_law_18]
      simp only [↓e_L_law_21, ↓e_L_law_27, ↓e_L_law_30, scr_al, c, s0, zk_i, zk_r, zk_n, ↓reduceIte]
      exact all _ (zsw_in _ _ _ _)
