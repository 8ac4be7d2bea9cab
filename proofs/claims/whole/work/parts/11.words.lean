/-! the classes' own words -/
def zlx (ci k : Nat) : Nat := match ci with
  | 0 => [338, 340, 342, 344, 346, 348, 350, 352, 354, 356, 358, 360].getD k 0
  | 1 => [427, 429, 431, 433, 435, 437].getD k 0
  | 2 => [278, 280].getD k 0
  | 3 => [455, 457, 459, 461, 463].getD k 0
  | 4 => [386, 388, 390, 392, 394, 396, 398, 400, 402, 404, 406, 408, 410].getD k 0
  | 5 => [300, 302, 304, 306, 308, 310, 312].getD k 0
  | 6 => [183, 185, 187, 189, 191, 193, 195, 197, 199, 201, 203, 205, 207, 209].getD k 0
  | 7 => [245, 247, 249, 251, 253, 255, 257, 259, 261, 263, 265].getD k 0
  | 8 => [476, 478, 480, 482, 484, 486, 488, 490, 492, 494].getD k 0
  | _ => [1108, 1110, 1112, 1114, 1116, 1118, 1120, 1122, 1124, 1126, 1128, 1130, 1132, 1134, 1136, 1138, 1140, 1142, 1144, 1146, 1148, 1150].getD k 0
theorem zlay_0 : ∀ k, k < 12 → lw_tbl[zlx 0 k]? = some (u_lay RX0 TX0 k) := by decide +kernel
theorem zinst_0 : lw_tbl[316]? = some (.instantiable RX0 12) := by decide +kernel
theorem zini_0 : lw_tbl[99]? = some (.initialized RX0) := by decide +kernel
theorem zlay_1 : ∀ k, k < 6 → lw_tbl[zlx 1 k]? = some (u_lay RX1 TX1 k) := by decide +kernel
theorem zinst_1 : lw_tbl[414]? = some (.instantiable RX1 6) := by decide +kernel
theorem zini_1 : lw_tbl[102]? = some (.initialized RX1) := by decide +kernel
theorem zlay_2 : ∀ k, k < 2 → lw_tbl[zlx 2 k]? = some (u_lay RX2 TX2 k) := by decide +kernel
theorem zinst_2 : lw_tbl[270]? = some (.instantiable RX2 2) := by decide +kernel
theorem zini_2 : lw_tbl[97]? = some (.initialized RX2) := by decide +kernel
theorem zlay_3 : ∀ k, k < 5 → lw_tbl[zlx 3 k]? = some (u_lay RX3 TX3 k) := by decide +kernel
theorem zinst_3 : lw_tbl[442]? = some (.instantiable RX3 5) := by decide +kernel
theorem zini_3 : lw_tbl[103]? = some (.initialized RX3) := by decide +kernel
theorem zlay_4 : ∀ k, k < 13 → lw_tbl[zlx 4 k]? = some (u_lay RX4 TX4 k) := by decide +kernel
theorem zinst_4 : lw_tbl[364]? = some (.instantiable RX4 13) := by decide +kernel
theorem zini_4 : lw_tbl[101]? = some (.initialized RX4) := by decide +kernel
theorem zlay_5 : ∀ k, k < 7 → lw_tbl[zlx 5 k]? = some (u_lay RX5 TX5 k) := by decide +kernel
theorem zinst_5 : lw_tbl[285]? = some (.instantiable RX5 7) := by decide +kernel
theorem zini_5 : lw_tbl[98]? = some (.initialized RX5) := by decide +kernel
theorem zlay_6 : ∀ k, k < 14 → lw_tbl[zlx 6 k]? = some (u_lay RX6 TX6 k) := by decide +kernel
theorem zinst_6 : lw_tbl[125]? = some (.instantiable RX6 14) := by decide +kernel
theorem zini_6 : lw_tbl[96]? = some (.initialized RX6) := by decide +kernel
theorem zlay_7 : ∀ k, k < 11 → lw_tbl[zlx 7 k]? = some (u_lay RX7 TX7 k) := by decide +kernel
theorem zinst_7 : lw_tbl[119]? = some (.instantiable RX7 11) := by decide +kernel
theorem zini_7 : lw_tbl[95]? = some (.initialized RX7) := by decide +kernel
theorem zlay_8 : ∀ k, k < 10 → lw_tbl[zlx 8 k]? = some (u_lay RX8 TX8 k) := by decide +kernel
theorem zinst_8 : lw_tbl[111]? = some (.instantiable RX8 10) := by decide +kernel
theorem zini_8 : lw_tbl[94]? = some (.initialized RX8) := by decide +kernel
theorem zlay_9 : ∀ k, k < 22 → lw_tbl[zlx 9 k]? = some (u_lay RX9 TX9 k) := by decide +kernel
theorem zinst_9 : lw_tbl[1066]? = some (.instantiable RX9 22) := by decide +kernel
theorem zini_9 : lw_tbl[104]? = some (.initialized RX9) := by decide +kernel
theorem z_good_lay (C : String) (T : u_T) (k : Nat) : goodWord (u_lay C T k) = true := by
  unfold u_lay
  split <;> rfl
theorem z_in {ci : Nat} (h : ci < 10) : ∀ w ∈ u_ws (zR ci) (zT ci) (zNf ci), w ∈ zU := by
  intro w hw
  obtain ⟨k, hk, rfl⟩ := List.mem_map.mp hw
  have hk := List.mem_range.mp hk
  match ci, h with
  | 0, _ => exact zU_mem (zlay_0 k hk) (z_good_lay _ _ _)
  | 1, _ => exact zU_mem (zlay_1 k hk) (z_good_lay _ _ _)
  | 2, _ => exact zU_mem (zlay_2 k hk) (z_good_lay _ _ _)
  | 3, _ => exact zU_mem (zlay_3 k hk) (z_good_lay _ _ _)
  | 4, _ => exact zU_mem (zlay_4 k hk) (z_good_lay _ _ _)
  | 5, _ => exact zU_mem (zlay_5 k hk) (z_good_lay _ _ _)
  | 6, _ => exact zU_mem (zlay_6 k hk) (z_good_lay _ _ _)
  | 7, _ => exact zU_mem (zlay_7 k hk) (z_good_lay _ _ _)
  | 8, _ => exact zU_mem (zlay_8 k hk) (z_good_lay _ _ _)
  | 9, _ => exact zU_mem (zlay_9 k hk) (z_good_lay _ _ _)
theorem z_ty {ci : Nat} (h : ci < 10) : ∀ k, k < zNf ci → parseFieldDescriptor (zT ci k).2.2.1 = some (zTy ci k) := by
  match ci, h with
  | 0, _ => exact tyX0_ok
  | 1, _ => exact tyX1_ok
  | 2, _ => exact tyX2_ok
  | 3, _ => exact tyX3_ok
  | 4, _ => exact tyX4_ok
  | 5, _ => exact tyX5_ok
  | 6, _ => exact tyX6_ok
  | 7, _ => exact tyX7_ok
  | 8, _ => exact tyX8_ok
  | 9, _ => exact tyX9_ok
theorem z_nm {ci : Nat} (h : ci < 10) : ∀ a, a < zNf ci → ∀ b, b < zNf ci → a ≠ b → (zT ci a).2.1 ≠ (zT ci b).2.1 := by
  match ci, h with
  | 0, _ => exact nmX0
  | 1, _ => exact nmX1
  | 2, _ => exact nmX2
  | 3, _ => exact nmX3
  | 4, _ => exact nmX4
  | 5, _ => exact nmX5
  | 6, _ => exact nmX6
  | 7, _ => exact nmX7
  | 8, _ => exact nmX8
  | 9, _ => exact nmX9
theorem z_inst {ci : Nat} (h : ci < 10) : Cond.instantiable (zR ci) (zNf ci) ∈ zU := by
  match ci, h with
  | 0, _ => exact zU_mem zinst_0 rfl
  | 1, _ => exact zU_mem zinst_1 rfl
  | 2, _ => exact zU_mem zinst_2 rfl
  | 3, _ => exact zU_mem zinst_3 rfl
  | 4, _ => exact zU_mem zinst_4 rfl
  | 5, _ => exact zU_mem zinst_5 rfl
  | 6, _ => exact zU_mem zinst_6 rfl
  | 7, _ => exact zU_mem zinst_7 rfl
  | 8, _ => exact zU_mem zinst_8 rfl
  | 9, _ => exact zU_mem zinst_9 rfl
theorem z_ini {ci : Nat} (h : ci < 10) : Cond.initialized (zR ci) ∈ zU := by
  match ci, h with
  | 0, _ => exact zU_mem zini_0 rfl
  | 1, _ => exact zU_mem zini_1 rfl
  | 2, _ => exact zU_mem zini_2 rfl
  | 3, _ => exact zU_mem zini_3 rfl
  | 4, _ => exact zU_mem zini_4 rfl
  | 5, _ => exact zU_mem zini_5 rfl
  | 6, _ => exact zU_mem zini_6 rfl
  | 7, _ => exact zU_mem zini_7 rfl
  | 8, _ => exact zU_mem zini_8 rfl
  | 9, _ => exact zU_mem zini_9 rfl
theorem zac_int : Cond.arrayClass .int ∈ zU := zU_mem (i := 212) (by decide +kernel) rfl
theorem zac_boolean : Cond.arrayClass .boolean ∈ zU := zU_mem (i := 283) (by decide +kernel) rfl
theorem zac_long : Cond.arrayClass .long ∈ zU := zU_mem (i := 440) (by decide +kernel) rfl
theorem zms_max : Cond.static Lib.Math.max.name ∈ zU := zU_mem (i := 322) (by decide +kernel) rfl
theorem zmc_max : Cond.code Lib.Math.max.name Lib.Math.max.code 2 (some .int) ∈ zU := zU_mem (i := 323) (by decide +kernel) rfl
theorem zms_min : Cond.static Lib.Math.min.name ∈ zU := zU_mem (i := 522) (by decide +kernel) rfl
theorem zmc_min : Cond.code Lib.Math.min.name Lib.Math.min.code 2 (some .int) ∈ zU := zU_mem (i := 523) (by decide +kernel) rfl
theorem zms_abs : Cond.static Lib.Math.abs.name ∈ zU := zU_mem (i := 671) (by decide +kernel) rfl
theorem zmc_abs : Cond.code Lib.Math.abs.name Lib.Math.abs.code 1 (some .int) ∈ zU := zU_mem (i := 672) (by decide +kernel) rfl
theorem zmi : Cond.initialized "java/lang/Math" ∈ zU := zU_mem (i := 100) (by decide +kernel) rfl
theorem zoi : Cond.instanceMethod objectInit ∈ zU := zU_mem (i := 116) (by decide +kernel) rfl
theorem zoc : Cond.code objectInit ⟨#[0xb1]⟩ 1 none ∈ zU := zU_mem (i := 117) (by decide +kernel) rfl
