/-! the methods' own words -/
def zwM (M : zM) (x : Nat × Nat × Nat × Nat × Nat) : Prop := (Cond.code M.1 M.2.1 M.2.2.1 M.2.2.2.1 ∈ zU) ∧ M.2.2.1 ≤ 20 ∧ plainName M.1.cls = true ∧ Cond.initialized M.1.cls ∈ zU ∧ (M.1.cls ≠ "java/lang/invoke/MethodHandle" ∧ M.1.cls ≠ "java/lang/invoke/VarHandle") ∧ (match x.2.1 with
  | 0 => Cond.static M.1 ∈ zU
  | 1 => Cond.instanceMethod M.1 ∈ zU ∧ M.1.name = "<init>" ∧ M.2.2.2.1 = none
  | _ => Cond.instanceMethod M.1 ∈ zU ∧ Cond.selects M.1.cls M.1 M.1 ∈ zU)
set_option maxRecDepth 100000 in
theorem zw_X0_init : zwM zm_X0_init (319, 1, 318, 0, 99) := ⟨zU_mem (i := 319) rfl rfl, by decide, by decide +kernel, zU_mem (i := 99) (by decide +kernel) rfl, by decide +kernel, ⟨zU_mem (i := 318) (by decide +kernel) rfl, by decide, rfl⟩⟩
set_option maxRecDepth 100000 in
theorem zw_X0_findBest : zwM zm_X0_findBest (701, 2, 699, 700, 99) := ⟨zU_mem (i := 701) rfl rfl, by decide, by decide +kernel, zU_mem (i := 99) (by decide +kernel) rfl, by decide +kernel, ⟨zU_mem (i := 699) (by decide +kernel) rfl, zU_mem (i := 700) (by decide +kernel) rfl⟩⟩
set_option maxRecDepth 100000 in
theorem zw_X0_findWithout : zwM zm_X0_findWithout (925, 2, 923, 924, 99) := ⟨zU_mem (i := 925) rfl rfl, by decide, by decide +kernel, zU_mem (i := 99) (by decide +kernel) rfl, by decide +kernel, ⟨zU_mem (i := 923) (by decide +kernel) rfl, zU_mem (i := 924) (by decide +kernel) rfl⟩⟩
set_option maxRecDepth 100000 in
theorem zw_X0_changes : zwM zm_X0_changes (929, 2, 927, 928, 99) := ⟨zU_mem (i := 929) rfl rfl, by decide, by decide +kernel, zU_mem (i := 99) (by decide +kernel) rfl, by decide +kernel, ⟨zU_mem (i := 927) (by decide +kernel) rfl, zU_mem (i := 928) (by decide +kernel) rfl⟩⟩
set_option maxRecDepth 100000 in
theorem zw_X0_fewestPlayers : zwM zm_X0_fewestPlayers (735, 2, 733, 734, 99) := ⟨zU_mem (i := 735) rfl rfl, by decide, by decide +kernel, zU_mem (i := 99) (by decide +kernel) rfl, by decide +kernel, ⟨zU_mem (i := 733) (by decide +kernel) rfl, zU_mem (i := 734) (by decide +kernel) rfl⟩⟩
set_option maxRecDepth 100000 in
theorem zw_X0_prepare : zwM zm_X0_prepare (705, 2, 704, 13, 99) := ⟨zU_mem (i := 705) rfl rfl, by decide, by decide +kernel, zU_mem (i := 99) (by decide +kernel) rfl, by decide +kernel, ⟨zU_mem (i := 704) (by decide +kernel) rfl, zU_mem (i := 13) (by decide +kernel) rfl⟩⟩
set_option maxRecDepth 100000 in
theorem zw_X0_search : zwM zm_X0_search (715, 2, 714, 14, 99) := ⟨zU_mem (i := 715) rfl rfl, by decide, by decide +kernel, zU_mem (i := 99) (by decide +kernel) rfl, by decide +kernel, ⟨zU_mem (i := 714) (by decide +kernel) rfl, zU_mem (i := 14) (by decide +kernel) rfl⟩⟩
set_option maxRecDepth 100000 in
theorem zw_X0_mostPoints : zwM zm_X0_mostPoints (719, 2, 718, 15, 99) := ⟨zU_mem (i := 719) rfl rfl, by decide, by decide +kernel, zU_mem (i := 99) (by decide +kernel) rfl, by decide +kernel, ⟨zU_mem (i := 718) (by decide +kernel) rfl, zU_mem (i := 15) (by decide +kernel) rfl⟩⟩
set_option maxRecDepth 100000 in
theorem zw_X0_castFrom : zwM zm_X0_castFrom (723, 2, 722, 16, 99) := ⟨zU_mem (i := 723) rfl rfl, by decide, by decide +kernel, zU_mem (i := 99) (by decide +kernel) rfl, by decide +kernel, ⟨zU_mem (i := 722) (by decide +kernel) rfl, zU_mem (i := 16) (by decide +kernel) rfl⟩⟩
set_option maxRecDepth 100000 in
theorem zw_X0_keep : zwM zm_X0_keep (727, 2, 726, 17, 99) := ⟨zU_mem (i := 727) rfl rfl, by decide, by decide +kernel, zU_mem (i := 99) (by decide +kernel) rfl, by decide +kernel, ⟨zU_mem (i := 726) (by decide +kernel) rfl, zU_mem (i := 17) (by decide +kernel) rfl⟩⟩
set_option maxRecDepth 100000 in
theorem zw_X0_playersFrom : zwM zm_X0_playersFrom (739, 2, 738, 18, 99) := ⟨zU_mem (i := 739) rfl rfl, by decide, by decide +kernel, zU_mem (i := 99) (by decide +kernel) rfl, by decide +kernel, ⟨zU_mem (i := 738) (by decide +kernel) rfl, zU_mem (i := 18) (by decide +kernel) rfl⟩⟩
set_option maxRecDepth 100000 in
theorem zw_X1_init : zwM zm_X1_init (417, 1, 416, 0, 102) := ⟨zU_mem (i := 417) rfl rfl, by decide, by decide +kernel, zU_mem (i := 102) (by decide +kernel) rfl, by decide +kernel, ⟨zU_mem (i := 416) (by decide +kernel) rfl, by decide, rfl⟩⟩
set_option maxRecDepth 100000 in
theorem zw_X1_prepare : zwM zm_X1_prepare (865, 2, 863, 864, 102) := ⟨zU_mem (i := 865) rfl rfl, by decide, by decide +kernel, zU_mem (i := 102) (by decide +kernel) rfl, by decide +kernel, ⟨zU_mem (i := 863) (by decide +kernel) rfl, zU_mem (i := 864) (by decide +kernel) rfl⟩⟩
set_option maxRecDepth 100000 in
theorem zw_X1_waysInAll : zwM zm_X1_waysInAll (888, 2, 886, 887, 102) := ⟨zU_mem (i := 888) rfl rfl, by decide, by decide +kernel, zU_mem (i := 102) (by decide +kernel) rfl, by decide +kernel, ⟨zU_mem (i := 886) (by decide +kernel) rfl, zU_mem (i := 887) (by decide +kernel) rfl⟩⟩
set_option maxRecDepth 100000 in
theorem zw_X1_waysItGoes : zwM zm_X1_waysItGoes (880, 2, 878, 879, 102) := ⟨zU_mem (i := 880) rfl rfl, by decide, by decide +kernel, zU_mem (i := 102) (by decide +kernel) rfl, by decide +kernel, ⟨zU_mem (i := 878) (by decide +kernel) rfl, zU_mem (i := 879) (by decide +kernel) rfl⟩⟩
set_option maxRecDepth 100000 in
theorem zw_X1_nextBehind : zwM zm_X1_nextBehind (906, 2, 904, 905, 102) := ⟨zU_mem (i := 906) rfl rfl, by decide, by decide +kernel, zU_mem (i := 102) (by decide +kernel) rfl, by decide +kernel, ⟨zU_mem (i := 904) (by decide +kernel) rfl, zU_mem (i := 905) (by decide +kernel) rfl⟩⟩
set_option maxRecDepth 100000 in
theorem zw_X1_waysWith : zwM zm_X1_waysWith (911, 2, 910, 27, 102) := ⟨zU_mem (i := 911) rfl rfl, by decide, by decide +kernel, zU_mem (i := 102) (by decide +kernel) rfl, by decide +kernel, ⟨zU_mem (i := 910) (by decide +kernel) rfl, zU_mem (i := 27) (by decide +kernel) rfl⟩⟩
set_option maxRecDepth 100000 in
theorem zw_X1_hoursOf : zwM zm_X1_hoursOf (916, 2, 915, 28, 102) := ⟨zU_mem (i := 916) rfl rfl, by decide, by decide +kernel, zU_mem (i := 102) (by decide +kernel) rfl, by decide +kernel, ⟨zU_mem (i := 915) (by decide +kernel) rfl, zU_mem (i := 28) (by decide +kernel) rfl⟩⟩
set_option maxRecDepth 100000 in
theorem zw_X1_waysOf : zwM zm_X1_waysOf (871, 2, 870, 24, 102) := ⟨zU_mem (i := 871) rfl rfl, by decide, by decide +kernel, zU_mem (i := 102) (by decide +kernel) rfl, by decide +kernel, ⟨zU_mem (i := 870) (by decide +kernel) rfl, zU_mem (i := 24) (by decide +kernel) rfl⟩⟩
set_option maxRecDepth 100000 in
theorem zw_X1_goes : zwM zm_X1_goes (884, 2, 883, 26, 102) := ⟨zU_mem (i := 884) rfl rfl, by decide, by decide +kernel, zU_mem (i := 102) (by decide +kernel) rfl, by decide +kernel, ⟨zU_mem (i := 883) (by decide +kernel) rfl, zU_mem (i := 26) (by decide +kernel) rfl⟩⟩
set_option maxRecDepth 100000 in
theorem zw_X1_isWell : zwM zm_X1_isWell (875, 2, 874, 25, 102) := ⟨zU_mem (i := 875) rfl rfl, by decide, by decide +kernel, zU_mem (i := 102) (by decide +kernel) rfl, by decide +kernel, ⟨zU_mem (i := 874) (by decide +kernel) rfl, zU_mem (i := 25) (by decide +kernel) rfl⟩⟩
set_option maxRecDepth 100000 in
theorem zw_X2_init : zwM zm_X2_init (273, 1, 272, 0, 97) := ⟨zU_mem (i := 273) rfl rfl, by decide, by decide +kernel, zU_mem (i := 97) (by decide +kernel) rfl, by decide +kernel, ⟨zU_mem (i := 272) (by decide +kernel) rfl, by decide, rfl⟩⟩
set_option maxRecDepth 100000 in
theorem zw_X2_become : zwM zm_X2_become (895, 2, 893, 894, 97) := ⟨zU_mem (i := 895) rfl rfl, by decide, by decide +kernel, zU_mem (i := 97) (by decide +kernel) rfl, by decide +kernel, ⟨zU_mem (i := 893) (by decide +kernel) rfl, zU_mem (i := 894) (by decide +kernel) rfl⟩⟩
set_option maxRecDepth 100000 in
theorem zw_X2_limbs : zwM zm_X2_limbs (1005, 2, 1003, 1004, 97) := ⟨zU_mem (i := 1005) rfl rfl, by decide, by decide +kernel, zU_mem (i := 97) (by decide +kernel) rfl, by decide +kernel, ⟨zU_mem (i := 1003) (by decide +kernel) rfl, zU_mem (i := 1004) (by decide +kernel) rfl⟩⟩
set_option maxRecDepth 100000 in
theorem zw_X2_limbAt : zwM zm_X2_limbAt (1017, 2, 1015, 1016, 97) := ⟨zU_mem (i := 1017) rfl rfl, by decide, by decide +kernel, zU_mem (i := 97) (by decide +kernel) rfl, by decide +kernel, ⟨zU_mem (i := 1015) (by decide +kernel) rfl, zU_mem (i := 1016) (by decide +kernel) rfl⟩⟩
set_option maxRecDepth 100000 in
theorem zw_X2_mix : zwM zm_X2_mix (1061, 2, 1059, 1060, 97) := ⟨zU_mem (i := 1061) rfl rfl, by decide, by decide +kernel, zU_mem (i := 97) (by decide +kernel) rfl, by decide +kernel, ⟨zU_mem (i := 1059) (by decide +kernel) rfl, zU_mem (i := 1060) (by decide +kernel) rfl⟩⟩
set_option maxRecDepth 100000 in
theorem zw_X2_side : zwM zm_X2_side (1009, 2, 1008, 33, 97) := ⟨zU_mem (i := 1009) rfl rfl, by decide, by decide +kernel, zU_mem (i := 97) (by decide +kernel) rfl, by decide +kernel, ⟨zU_mem (i := 1008) (by decide +kernel) rfl, zU_mem (i := 33) (by decide +kernel) rfl⟩⟩
set_option maxRecDepth 100000 in
theorem zw_X2_common : zwM zm_X2_common (898, 0, 897, 0, 97) := ⟨zU_mem (i := 898) rfl rfl, by decide, by decide +kernel, zU_mem (i := 97) (by decide +kernel) rfl, by decide +kernel, zU_mem (i := 897) (by decide +kernel) rfl⟩
set_option maxRecDepth 100000 in
theorem zw_X3_init : zwM zm_X3_init (445, 1, 444, 0, 103) := ⟨zU_mem (i := 445) rfl rfl, by decide, by decide +kernel, zU_mem (i := 103) (by decide +kernel) rfl, by decide +kernel, ⟨zU_mem (i := 444) (by decide +kernel) rfl, by decide, rfl⟩⟩
set_option maxRecDepth 100000 in
theorem zw_X3_prepare : zwM zm_X3_prepare (940, 2, 938, 939, 103) := ⟨zU_mem (i := 940) rfl rfl, by decide, by decide +kernel, zU_mem (i := 103) (by decide +kernel) rfl, by decide +kernel, ⟨zU_mem (i := 938) (by decide +kernel) rfl, zU_mem (i := 939) (by decide +kernel) rfl⟩⟩
set_option maxRecDepth 100000 in
theorem zw_X3_run : zwM zm_X3_run (949, 2, 947, 948, 103) := ⟨zU_mem (i := 949) rfl rfl, by decide, by decide +kernel, zU_mem (i := 103) (by decide +kernel) rfl, by decide +kernel, ⟨zU_mem (i := 947) (by decide +kernel) rfl, zU_mem (i := 948) (by decide +kernel) rfl⟩⟩
set_option maxRecDepth 100000 in
theorem zw_X3_leastGainer : zwM zm_X3_leastGainer (963, 2, 961, 962, 103) := ⟨zU_mem (i := 963) rfl rfl, by decide, by decide +kernel, zU_mem (i := 103) (by decide +kernel) rfl, by decide +kernel, ⟨zU_mem (i := 961) (by decide +kernel) rfl, zU_mem (i := 962) (by decide +kernel) rfl⟩⟩
set_option maxRecDepth 100000 in
theorem zw_X3_tellTruth : zwM zm_X3_tellTruth (945, 2, 944, 29, 103) := ⟨zU_mem (i := 945) rfl rfl, by decide, by decide +kernel, zU_mem (i := 103) (by decide +kernel) rfl, by decide +kernel, ⟨zU_mem (i := 944) (by decide +kernel) rfl, zU_mem (i := 29) (by decide +kernel) rfl⟩⟩
set_option maxRecDepth 100000 in
theorem zw_X3_offer : zwM zm_X3_offer (953, 2, 952, 30, 103) := ⟨zU_mem (i := 953) rfl rfl, by decide, by decide +kernel, zU_mem (i := 103) (by decide +kernel) rfl, by decide +kernel, ⟨zU_mem (i := 952) (by decide +kernel) rfl, zU_mem (i := 30) (by decide +kernel) rfl⟩⟩
set_option maxRecDepth 100000 in
theorem zw_X3_gainsByAnother : zwM zm_X3_gainsByAnother (969, 2, 968, 31, 103) := ⟨zU_mem (i := 969) rfl rfl, by decide, by decide +kernel, zU_mem (i := 103) (by decide +kernel) rfl, by decide +kernel, ⟨zU_mem (i := 968) (by decide +kernel) rfl, zU_mem (i := 31) (by decide +kernel) rfl⟩⟩
set_option maxRecDepth 100000 in
theorem zw_X3_tellOnly : zwM zm_X3_tellOnly (973, 2, 972, 32, 103) := ⟨zU_mem (i := 973) rfl rfl, by decide, by decide +kernel, zU_mem (i := 103) (by decide +kernel) rfl, by decide +kernel, ⟨zU_mem (i := 972) (by decide +kernel) rfl, zU_mem (i := 32) (by decide +kernel) rfl⟩⟩
set_option maxRecDepth 100000 in
theorem zw_X4_init : zwM zm_X4_init (367, 1, 366, 0, 101) := ⟨zU_mem (i := 367) rfl rfl, by decide, by decide +kernel, zU_mem (i := 101) (by decide +kernel) rfl, by decide +kernel, ⟨zU_mem (i := 366) (by decide +kernel) rfl, by decide, rfl⟩⟩
set_option maxRecDepth 100000 in
theorem zw_X4_find : zwM zm_X4_find (830, 2, 828, 829, 101) := ⟨zU_mem (i := 830) rfl rfl, by decide, by decide +kernel, zU_mem (i := 101) (by decide +kernel) rfl, by decide +kernel, ⟨zU_mem (i := 828) (by decide +kernel) rfl, zU_mem (i := 829) (by decide +kernel) rfl⟩⟩
set_option maxRecDepth 100000 in
theorem zw_X4_prepare : zwM zm_X4_prepare (834, 2, 833, 20, 101) := ⟨zU_mem (i := 834) rfl rfl, by decide, by decide +kernel, zU_mem (i := 101) (by decide +kernel) rfl, by decide +kernel, ⟨zU_mem (i := 833) (by decide +kernel) rfl, zU_mem (i := 20) (by decide +kernel) rfl⟩⟩
set_option maxRecDepth 100000 in
theorem zw_X4_planFrom : zwM zm_X4_planFrom (843, 2, 842, 21, 101) := ⟨zU_mem (i := 843) rfl rfl, by decide, by decide +kernel, zU_mem (i := 101) (by decide +kernel) rfl, by decide +kernel, ⟨zU_mem (i := 842) (by decide +kernel) rfl, zU_mem (i := 21) (by decide +kernel) rfl⟩⟩
set_option maxRecDepth 100000 in
theorem zw_X4_leastKnown : zwM zm_X4_leastKnown (847, 2, 846, 22, 101) := ⟨zU_mem (i := 847) rfl rfl, by decide, by decide +kernel, zU_mem (i := 101) (by decide +kernel) rfl, by decide +kernel, ⟨zU_mem (i := 846) (by decide +kernel) rfl, zU_mem (i := 22) (by decide +kernel) rfl⟩⟩
set_option maxRecDepth 100000 in
theorem zw_X4_compare : zwM zm_X4_compare (851, 2, 850, 23, 101) := ⟨zU_mem (i := 851) rfl rfl, by decide, by decide +kernel, zU_mem (i := 101) (by decide +kernel) rfl, by decide +kernel, ⟨zU_mem (i := 850) (by decide +kernel) rfl, zU_mem (i := 23) (by decide +kernel) rfl⟩⟩
set_option maxRecDepth 100000 in
theorem zw_X5_init : zwM zm_X5_init (288, 1, 287, 0, 98) := ⟨zU_mem (i := 288) rfl rfl, by decide, by decide +kernel, zU_mem (i := 98) (by decide +kernel) rfl, by decide +kernel, ⟨zU_mem (i := 287) (by decide +kernel) rfl, by decide, rfl⟩⟩
set_option maxRecDepth 100000 in
theorem zw_X5_readText : zwM zm_X5_readText (520, 2, 518, 519, 98) := ⟨zU_mem (i := 520) rfl rfl, by decide, by decide +kernel, zU_mem (i := 98) (by decide +kernel) rfl, by decide +kernel, ⟨zU_mem (i := 518) (by decide +kernel) rfl, zU_mem (i := 519) (by decide +kernel) rfl⟩⟩
set_option maxRecDepth 100000 in
theorem zw_X5_item : zwM zm_X5_item (549, 2, 548, 4, 98) := ⟨zU_mem (i := 549) rfl rfl, by decide, by decide +kernel, zU_mem (i := 98) (by decide +kernel) rfl, by decide +kernel, ⟨zU_mem (i := 548) (by decide +kernel) rfl, zU_mem (i := 4) (by decide +kernel) rfl⟩⟩
set_option maxRecDepth 100000 in
theorem zw_X5_partItem : zwM zm_X5_partItem (606, 2, 605, 6, 98) := ⟨zU_mem (i := 606) rfl rfl, by decide, by decide +kernel, zU_mem (i := 98) (by decide +kernel) rfl, by decide +kernel, ⟨zU_mem (i := 605) (by decide +kernel) rfl, zU_mem (i := 6) (by decide +kernel) rfl⟩⟩
set_option maxRecDepth 100000 in
theorem zw_X5_childItem : zwM zm_X5_childItem (623, 2, 622, 10, 98) := ⟨zU_mem (i := 623) rfl rfl, by decide, by decide +kernel, zU_mem (i := 98) (by decide +kernel) rfl, by decide +kernel, ⟨zU_mem (i := 622) (by decide +kernel) rfl, zU_mem (i := 10) (by decide +kernel) rfl⟩⟩
set_option maxRecDepth 100000 in
theorem zw_X5_sceneItem : zwM zm_X5_sceneItem (628, 2, 627, 11, 98) := ⟨zU_mem (i := 628) rfl rfl, by decide, by decide +kernel, zU_mem (i := 98) (by decide +kernel) rfl, by decide +kernel, ⟨zU_mem (i := 627) (by decide +kernel) rfl, zU_mem (i := 11) (by decide +kernel) rfl⟩⟩
set_option maxRecDepth 100000 in
theorem zw_X5_wishItem : zwM zm_X5_wishItem (633, 2, 632, 12, 98) := ⟨zU_mem (i := 633) rfl rfl, by decide, by decide +kernel, zU_mem (i := 98) (by decide +kernel) rfl, by decide +kernel, ⟨zU_mem (i := 632) (by decide +kernel) rfl, zU_mem (i := 12) (by decide +kernel) rfl⟩⟩
set_option maxRecDepth 100000 in
theorem zw_X5_number : zwM zm_X5_number (610, 2, 609, 7, 98) := ⟨zU_mem (i := 610) rfl rfl, by decide, by decide +kernel, zU_mem (i := 98) (by decide +kernel) rfl, by decide +kernel, ⟨zU_mem (i := 609) (by decide +kernel) rfl, zU_mem (i := 7) (by decide +kernel) rfl⟩⟩
set_option maxRecDepth 100000 in
theorem zw_X5_isNumber : zwM zm_X5_isNumber (614, 2, 613, 8, 98) := ⟨zU_mem (i := 614) rfl rfl, by decide, by decide +kernel, zU_mem (i := 98) (by decide +kernel) rfl, by decide +kernel, ⟨zU_mem (i := 613) (by decide +kernel) rfl, zU_mem (i := 8) (by decide +kernel) rfl⟩⟩
set_option maxRecDepth 100000 in
theorem zw_X5_stop : zwM zm_X5_stop (618, 2, 617, 9, 98) := ⟨zU_mem (i := 618) rfl rfl, by decide, by decide +kernel, zU_mem (i := 98) (by decide +kernel) rfl, by decide +kernel, ⟨zU_mem (i := 617) (by decide +kernel) rfl, zU_mem (i := 9) (by decide +kernel) rfl⟩⟩
set_option maxRecDepth 100000 in
theorem zw_X5_isWord : zwM zm_X5_isWord (554, 2, 553, 5, 98) := ⟨zU_mem (i := 554) rfl rfl, by decide, by decide +kernel, zU_mem (i := 98) (by decide +kernel) rfl, by decide +kernel, ⟨zU_mem (i := 553) (by decide +kernel) rfl, zU_mem (i := 5) (by decide +kernel) rfl⟩⟩
set_option maxRecDepth 100000 in
theorem zw_X5_step : zwM zm_X5_step (531, 2, 530, 1, 98) := ⟨zU_mem (i := 531) rfl rfl, by decide, by decide +kernel, zU_mem (i := 98) (by decide +kernel) rfl, by decide +kernel, ⟨zU_mem (i := 530) (by decide +kernel) rfl, zU_mem (i := 1) (by decide +kernel) rfl⟩⟩
set_option maxRecDepth 100000 in
theorem zw_X5_passLetters : zwM zm_X5_passLetters (538, 2, 537, 2, 98) := ⟨zU_mem (i := 538) rfl rfl, by decide, by decide +kernel, zU_mem (i := 98) (by decide +kernel) rfl, by decide +kernel, ⟨zU_mem (i := 537) (by decide +kernel) rfl, zU_mem (i := 2) (by decide +kernel) rfl⟩⟩
set_option maxRecDepth 100000 in
theorem zw_X5_passFigures : zwM zm_X5_passFigures (545, 2, 544, 3, 98) := ⟨zU_mem (i := 545) rfl rfl, by decide, by decide +kernel, zU_mem (i := 98) (by decide +kernel) rfl, by decide +kernel, ⟨zU_mem (i := 544) (by decide +kernel) rfl, zU_mem (i := 3) (by decide +kernel) rfl⟩⟩
set_option maxRecDepth 100000 in
theorem zw_X5_isLetter : zwM zm_X5_isLetter (534, 0, 533, 0, 98) := ⟨zU_mem (i := 534) rfl rfl, by decide, by decide +kernel, zU_mem (i := 98) (by decide +kernel) rfl, by decide +kernel, zU_mem (i := 533) (by decide +kernel) rfl⟩
set_option maxRecDepth 100000 in
theorem zw_X5_isFigure : zwM zm_X5_isFigure (541, 0, 540, 0, 98) := ⟨zU_mem (i := 541) rfl rfl, by decide, by decide +kernel, zU_mem (i := 98) (by decide +kernel) rfl, by decide +kernel, zU_mem (i := 540) (by decide +kernel) rfl⟩
set_option maxRecDepth 100000 in
theorem zw_X6_init : zwM zm_X6_init (128, 1, 127, 0, 96) := ⟨zU_mem (i := 128) rfl rfl, by decide, by decide +kernel, zU_mem (i := 96) (by decide +kernel) rfl, by decide +kernel, ⟨zU_mem (i := 127) (by decide +kernel) rfl, by decide, rfl⟩⟩
set_option maxRecDepth 100000 in
theorem zw_X6_empty : zwM zm_X6_empty (527, 2, 525, 526, 96) := ⟨zU_mem (i := 527) rfl rfl, by decide, by decide +kernel, zU_mem (i := 96) (by decide +kernel) rfl, by decide +kernel, ⟨zU_mem (i := 525) (by decide +kernel) rfl, zU_mem (i := 526) (by decide +kernel) rfl⟩⟩
set_option maxRecDepth 100000 in
theorem zw_X6_copyOf : zwM zm_X6_copyOf (653, 2, 651, 652, 96) := ⟨zU_mem (i := 653) rfl rfl, by decide, by decide +kernel, zU_mem (i := 96) (by decide +kernel) rfl, by decide +kernel, ⟨zU_mem (i := 651) (by decide +kernel) rfl, zU_mem (i := 652) (by decide +kernel) rfl⟩⟩
set_option maxRecDepth 100000 in
theorem zw_X6_hasPart : zwM zm_X6_hasPart (645, 2, 643, 644, 96) := ⟨zU_mem (i := 645) rfl rfl, by decide, by decide +kernel, zU_mem (i := 96) (by decide +kernel) rfl, by decide +kernel, ⟨zU_mem (i := 643) (by decide +kernel) rfl, zU_mem (i := 644) (by decide +kernel) rfl⟩⟩
set_option maxRecDepth 100000 in
theorem zw_X6_hasChild : zwM zm_X6_hasChild (641, 2, 639, 640, 96) := ⟨zU_mem (i := 641) rfl rfl, by decide, by decide +kernel, zU_mem (i := 96) (by decide +kernel) rfl, by decide +kernel, ⟨zU_mem (i := 639) (by decide +kernel) rfl, zU_mem (i := 640) (by decide +kernel) rfl⟩⟩
set_option maxRecDepth 100000 in
theorem zw_X6_hasScene : zwM zm_X6_hasScene (693, 2, 691, 692, 96) := ⟨zU_mem (i := 693) rfl rfl, by decide, by decide +kernel, zU_mem (i := 96) (by decide +kernel) rfl, by decide +kernel, ⟨zU_mem (i := 691) (by decide +kernel) rfl, zU_mem (i := 692) (by decide +kernel) rfl⟩⟩
set_option maxRecDepth 100000 in
theorem zw_X6_plays : zwM zm_X6_plays (689, 2, 687, 688, 96) := ⟨zU_mem (i := 689) rfl rfl, by decide, by decide +kernel, zU_mem (i := 96) (by decide +kernel) rfl, by decide +kernel, ⟨zU_mem (i := 687) (by decide +kernel) rfl, zU_mem (i := 688) (by decide +kernel) rfl⟩⟩
set_option maxRecDepth 100000 in
theorem zw_X6_rankOf : zwM zm_X6_rankOf (637, 2, 635, 636, 96) := ⟨zU_mem (i := 637) rfl rfl, by decide, by decide +kernel, zU_mem (i := 96) (by decide +kernel) rfl, by decide +kernel, ⟨zU_mem (i := 635) (by decide +kernel) rfl, zU_mem (i := 636) (by decide +kernel) rfl⟩⟩
set_option maxRecDepth 100000 in
theorem zw_X6_fitOf : zwM zm_X6_fitOf (668, 2, 666, 667, 96) := ⟨zU_mem (i := 668) rfl rfl, by decide, by decide +kernel, zU_mem (i := 96) (by decide +kernel) rfl, by decide +kernel, ⟨zU_mem (i := 666) (by decide +kernel) rfl, zU_mem (i := 667) (by decide +kernel) rfl⟩⟩
set_option maxRecDepth 100000 in
theorem zw_X6_scenesOf : zwM zm_X6_scenesOf (685, 2, 683, 684, 96) := ⟨zU_mem (i := 685) rfl rfl, by decide, by decide +kernel, zU_mem (i := 96) (by decide +kernel) rfl, by decide +kernel, ⟨zU_mem (i := 683) (by decide +kernel) rfl, zU_mem (i := 684) (by decide +kernel) rfl⟩⟩
set_option maxRecDepth 100000 in
theorem zw_X6_clashing : zwM zm_X6_clashing (681, 2, 679, 680, 96) := ⟨zU_mem (i := 681) rfl rfl, by decide, by decide +kernel, zU_mem (i := 96) (by decide +kernel) rfl, by decide +kernel, ⟨zU_mem (i := 679) (by decide +kernel) rfl, zU_mem (i := 680) (by decide +kernel) rfl⟩⟩
set_option maxRecDepth 100000 in
theorem zw_X6_fillClashes : zwM zm_X6_fillClashes (709, 2, 707, 708, 96) := ⟨zU_mem (i := 709) rfl rfl, by decide, by decide +kernel, zU_mem (i := 96) (by decide +kernel) rfl, by decide +kernel, ⟨zU_mem (i := 707) (by decide +kernel) rfl, zU_mem (i := 708) (by decide +kernel) rfl⟩⟩
set_option maxRecDepth 100000 in
theorem zw_X6_minutesOf : zwM zm_X6_minutesOf (817, 2, 815, 816, 96) := ⟨zU_mem (i := 817) rfl rfl, by decide, by decide +kernel, zU_mem (i := 96) (by decide +kernel) rfl, by decide +kernel, ⟨zU_mem (i := 815) (by decide +kernel) rfl, zU_mem (i := 816) (by decide +kernel) rfl⟩⟩
set_option maxRecDepth 100000 in
theorem zw_X6_mixChildren : zwM zm_X6_mixChildren (1052, 2, 1050, 1051, 96) := ⟨zU_mem (i := 1052) rfl rfl, by decide, by decide +kernel, zU_mem (i := 96) (by decide +kernel) rfl, by decide +kernel, ⟨zU_mem (i := 1050) (by decide +kernel) rfl, zU_mem (i := 1051) (by decide +kernel) rfl⟩⟩
set_option maxRecDepth 100000 in
theorem zw_X6_mixScenes : zwM zm_X6_mixScenes (1057, 2, 1055, 1056, 96) := ⟨zU_mem (i := 1057) rfl rfl, by decide, by decide +kernel, zU_mem (i := 96) (by decide +kernel) rfl, by decide +kernel, ⟨zU_mem (i := 1055) (by decide +kernel) rfl, zU_mem (i := 1056) (by decide +kernel) rfl⟩⟩
set_option maxRecDepth 100000 in
theorem zw_X7_init : zwM zm_X7_init (122, 1, 121, 0, 95) := ⟨zU_mem (i := 122) rfl rfl, by decide, by decide +kernel, zU_mem (i := 95) (by decide +kernel) rfl, by decide +kernel, ⟨zU_mem (i := 121) (by decide +kernel) rfl, by decide, rfl⟩⟩
set_option maxRecDepth 100000 in
theorem zw_X7_copyOf : zwM zm_X7_copyOf (1026, 2, 1024, 1025, 95) := ⟨zU_mem (i := 1026) rfl rfl, by decide, by decide +kernel, zU_mem (i := 95) (by decide +kernel) rfl, by decide +kernel, ⟨zU_mem (i := 1024) (by decide +kernel) rfl, zU_mem (i := 1025) (by decide +kernel) rfl⟩⟩
set_option maxRecDepth 100000 in
theorem zw_X7_addByte : zwM zm_X7_addByte (508, 2, 506, 507, 95) := ⟨zU_mem (i := 508) rfl rfl, by decide, by decide +kernel, zU_mem (i := 95) (by decide +kernel) rfl, by decide +kernel, ⟨zU_mem (i := 506) (by decide +kernel) rfl, zU_mem (i := 507) (by decide +kernel) rfl⟩⟩
set_option maxRecDepth 100000 in
theorem zw_X7_begin : zwM zm_X7_begin (649, 2, 647, 648, 95) := ⟨zU_mem (i := 649) rfl rfl, by decide, by decide +kernel, zU_mem (i := 95) (by decide +kernel) rfl, by decide +kernel, ⟨zU_mem (i := 647) (by decide +kernel) rfl, zU_mem (i := 648) (by decide +kernel) rfl⟩⟩
set_option maxRecDepth 100000 in
theorem zw_X7_learned : zwM zm_X7_learned (764, 2, 762, 763, 95) := ⟨zU_mem (i := 764) rfl rfl, by decide, by decide +kernel, zU_mem (i := 95) (by decide +kernel) rfl, by decide +kernel, ⟨zU_mem (i := 762) (by decide +kernel) rfl, zU_mem (i := 763) (by decide +kernel) rfl⟩⟩
set_option maxRecDepth 100000 in
theorem zw_X7_fading : zwM zm_X7_fading (789, 2, 787, 788, 95) := ⟨zU_mem (i := 789) rfl rfl, by decide, by decide +kernel, zU_mem (i := 95) (by decide +kernel) rfl, by decide +kernel, ⟨zU_mem (i := 787) (by decide +kernel) rfl, zU_mem (i := 788) (by decide +kernel) rfl⟩⟩
set_option maxRecDepth 100000 in
theorem zw_X7_sitting : zwM zm_X7_sitting (775, 2, 773, 774, 95) := ⟨zU_mem (i := 775) rfl rfl, by decide, by decide +kernel, zU_mem (i := 95) (by decide +kernel) rfl, by decide +kernel, ⟨zU_mem (i := 773) (by decide +kernel) rfl, zU_mem (i := 774) (by decide +kernel) rfl⟩⟩
set_option maxRecDepth 100000 in
theorem zw_X7_sceneSlips : zwM zm_X7_sceneSlips (813, 2, 811, 812, 95) := ⟨zU_mem (i := 813) rfl rfl, by decide, by decide +kernel, zU_mem (i := 95) (by decide +kernel) rfl, by decide +kernel, ⟨zU_mem (i := 811) (by decide +kernel) rfl, zU_mem (i := 812) (by decide +kernel) rfl⟩⟩
set_option maxRecDepth 100000 in
theorem zw_X7_allSlips : zwM zm_X7_allSlips (809, 2, 807, 808, 95) := ⟨zU_mem (i := 809) rfl rfl, by decide, by decide +kernel, zU_mem (i := 95) (by decide +kernel) rfl, by decide +kernel, ⟨zU_mem (i := 807) (by decide +kernel) rfl, zU_mem (i := 808) (by decide +kernel) rfl⟩⟩
set_option maxRecDepth 100000 in
theorem zw_X7_leaning : zwM zm_X7_leaning (997, 2, 995, 996, 95) := ⟨zU_mem (i := 997) rfl rfl, by decide, by decide +kernel, zU_mem (i := 95) (by decide +kernel) rfl, by decide +kernel, ⟨zU_mem (i := 995) (by decide +kernel) rfl, zU_mem (i := 996) (by decide +kernel) rfl⟩⟩
set_option maxRecDepth 100000 in
theorem zw_X7_mix : zwM zm_X7_mix (1047, 2, 1045, 1046, 95) := ⟨zU_mem (i := 1047) rfl rfl, by decide, by decide +kernel, zU_mem (i := 95) (by decide +kernel) rfl, by decide +kernel, ⟨zU_mem (i := 1045) (by decide +kernel) rfl, zU_mem (i := 1046) (by decide +kernel) rfl⟩⟩
set_option maxRecDepth 100000 in
theorem zw_X8_init : zwM zm_X8_init (114, 1, 113, 0, 94) := ⟨zU_mem (i := 114) rfl rfl, by decide, by decide +kernel, zU_mem (i := 94) (by decide +kernel) rfl, by decide +kernel, ⟨zU_mem (i := 113) (by decide +kernel) rfl, by decide, rfl⟩⟩
set_option maxRecDepth 100000 in
theorem zw_X8_type : zwM zm_X8_type (500, 2, 498, 499, 94) := ⟨zU_mem (i := 500) rfl rfl, by decide, by decide +kernel, zU_mem (i := 94) (by decide +kernel) rfl, by decide +kernel, ⟨zU_mem (i := 498) (by decide +kernel) rfl, zU_mem (i := 499) (by decide +kernel) rfl⟩⟩
set_option maxRecDepth 100000 in
theorem zw_X8_clear : zwM zm_X8_clear (512, 2, 510, 511, 94) := ⟨zU_mem (i := 512) rfl rfl, by decide, by decide +kernel, zU_mem (i := 94) (by decide +kernel) rfl, by decide +kernel, ⟨zU_mem (i := 510) (by decide +kernel) rfl, zU_mem (i := 511) (by decide +kernel) rfl⟩⟩
set_option maxRecDepth 100000 in
theorem zw_X8_read : zwM zm_X8_read (516, 2, 514, 515, 94) := ⟨zU_mem (i := 516) rfl rfl, by decide, by decide +kernel, zU_mem (i := 94) (by decide +kernel) rfl, by decide +kernel, ⟨zU_mem (i := 514) (by decide +kernel) rfl, zU_mem (i := 515) (by decide +kernel) rfl⟩⟩
set_option maxRecDepth 100000 in
theorem zw_X8_put : zwM zm_X8_put (658, 2, 656, 657, 94) := ⟨zU_mem (i := 658) rfl rfl, by decide, by decide +kernel, zU_mem (i := 94) (by decide +kernel) rfl, by decide +kernel, ⟨zU_mem (i := 656) (by decide +kernel) rfl, zU_mem (i := 657) (by decide +kernel) rfl⟩⟩
set_option maxRecDepth 100000 in
theorem zw_X8_fit : zwM zm_X8_fit (662, 2, 660, 661, 94) := ⟨zU_mem (i := 662) rfl rfl, by decide, by decide +kernel, zU_mem (i := 94) (by decide +kernel) rfl, by decide +kernel, ⟨zU_mem (i := 660) (by decide +kernel) rfl, zU_mem (i := 661) (by decide +kernel) rfl⟩⟩
set_option maxRecDepth 100000 in
theorem zw_X8_clash : zwM zm_X8_clash (677, 2, 675, 676, 94) := ⟨zU_mem (i := 677) rfl rfl, by decide, by decide +kernel, zU_mem (i := 94) (by decide +kernel) rfl, by decide +kernel, ⟨zU_mem (i := 675) (by decide +kernel) rfl, zU_mem (i := 676) (by decide +kernel) rfl⟩⟩
set_option maxRecDepth 100000 in
theorem zw_X8_best : zwM zm_X8_best (697, 2, 695, 696, 94) := ⟨zU_mem (i := 697) rfl rfl, by decide, by decide +kernel, zU_mem (i := 94) (by decide +kernel) rfl, by decide +kernel, ⟨zU_mem (i := 695) (by decide +kernel) rfl, zU_mem (i := 696) (by decide +kernel) rfl⟩⟩
set_option maxRecDepth 100000 in
theorem zw_X8_fewest : zwM zm_X8_fewest (731, 2, 729, 730, 94) := ⟨zU_mem (i := 731) rfl rfl, by decide, by decide +kernel, zU_mem (i := 94) (by decide +kernel) rfl, by decide +kernel, ⟨zU_mem (i := 729) (by decide +kernel) rfl, zU_mem (i := 730) (by decide +kernel) rfl⟩⟩
set_option maxRecDepth 100000 in
theorem zw_X8_cast : zwM zm_X8_cast (744, 2, 742, 743, 94) := ⟨zU_mem (i := 744) rfl rfl, by decide, by decide +kernel, zU_mem (i := 94) (by decide +kernel) rfl, by decide +kernel, ⟨zU_mem (i := 742) (by decide +kernel) rfl, zU_mem (i := 743) (by decide +kernel) rfl⟩⟩
set_option maxRecDepth 100000 in
theorem zw_X8_takeBest : zwM zm_X8_takeBest (752, 2, 750, 751, 94) := ⟨zU_mem (i := 752) rfl rfl, by decide, by decide +kernel, zU_mem (i := 94) (by decide +kernel) rfl, by decide +kernel, ⟨zU_mem (i := 750) (by decide +kernel) rfl, zU_mem (i := 751) (by decide +kernel) rfl⟩⟩
set_option maxRecDepth 100000 in
theorem zw_X8_rehearse : zwM zm_X8_rehearse (756, 2, 754, 755, 94) := ⟨zU_mem (i := 756) rfl rfl, by decide, by decide +kernel, zU_mem (i := 94) (by decide +kernel) rfl, by decide +kernel, ⟨zU_mem (i := 754) (by decide +kernel) rfl, zU_mem (i := 755) (by decide +kernel) rfl⟩⟩
set_option maxRecDepth 100000 in
theorem zw_X8_night : zwM zm_X8_night (785, 2, 783, 784, 94) := ⟨zU_mem (i := 785) rfl rfl, by decide, by decide +kernel, zU_mem (i := 94) (by decide +kernel) rfl, by decide +kernel, ⟨zU_mem (i := 783) (by decide +kernel) rfl, zU_mem (i := 784) (by decide +kernel) rfl⟩⟩
set_option maxRecDepth 100000 in
theorem zw_X8_known : zwM zm_X8_known (797, 2, 795, 796, 94) := ⟨zU_mem (i := 797) rfl rfl, by decide, by decide +kernel, zU_mem (i := 94) (by decide +kernel) rfl, by decide +kernel, ⟨zU_mem (i := 795) (by decide +kernel) rfl, zU_mem (i := 796) (by decide +kernel) rfl⟩⟩
set_option maxRecDepth 100000 in
theorem zw_X8_sat : zwM zm_X8_sat (801, 2, 799, 800, 94) := ⟨zU_mem (i := 801) rfl rfl, by decide, by decide +kernel, zU_mem (i := 94) (by decide +kernel) rfl, by decide +kernel, ⟨zU_mem (i := 799) (by decide +kernel) rfl, zU_mem (i := 800) (by decide +kernel) rfl⟩⟩
set_option maxRecDepth 100000 in
theorem zw_X8_slips : zwM zm_X8_slips (805, 2, 803, 804, 94) := ⟨zU_mem (i := 805) rfl rfl, by decide, by decide +kernel, zU_mem (i := 94) (by decide +kernel) rfl, by decide +kernel, ⟨zU_mem (i := 803) (by decide +kernel) rfl, zU_mem (i := 804) (by decide +kernel) rfl⟩⟩
set_option maxRecDepth 100000 in
theorem zw_X8_cut : zwM zm_X8_cut (822, 2, 820, 821, 94) := ⟨zU_mem (i := 822) rfl rfl, by decide, by decide +kernel, zU_mem (i := 94) (by decide +kernel) rfl, by decide +kernel, ⟨zU_mem (i := 820) (by decide +kernel) rfl, zU_mem (i := 821) (by decide +kernel) rfl⟩⟩
set_option maxRecDepth 100000 in
theorem zw_X8_plan : zwM zm_X8_plan (826, 2, 824, 825, 94) := ⟨zU_mem (i := 826) rfl rfl, by decide, by decide +kernel, zU_mem (i := 94) (by decide +kernel) rfl, by decide +kernel, ⟨zU_mem (i := 824) (by decide +kernel) rfl, zU_mem (i := 825) (by decide +kernel) rfl⟩⟩
set_option maxRecDepth 100000 in
theorem zw_X8_behind : zwM zm_X8_behind (857, 2, 855, 856, 94) := ⟨zU_mem (i := 857) rfl rfl, by decide, by decide +kernel, zU_mem (i := 94) (by decide +kernel) rfl, by decide +kernel, ⟨zU_mem (i := 855) (by decide +kernel) rfl, zU_mem (i := 856) (by decide +kernel) rfl⟩⟩
set_option maxRecDepth 100000 in
theorem zw_X8_odds : zwM zm_X8_odds (861, 2, 859, 860, 94) := ⟨zU_mem (i := 861) rfl rfl, by decide, by decide +kernel, zU_mem (i := 94) (by decide +kernel) rfl, by decide +kernel, ⟨zU_mem (i := 859) (by decide +kernel) rfl, zU_mem (i := 860) (by decide +kernel) rfl⟩⟩
set_option maxRecDepth 100000 in
theorem zw_X8_next : zwM zm_X8_next (902, 2, 900, 901, 94) := ⟨zU_mem (i := 902) rfl rfl, by decide, by decide +kernel, zU_mem (i := 94) (by decide +kernel) rfl, by decide +kernel, ⟨zU_mem (i := 900) (by decide +kernel) rfl, zU_mem (i := 901) (by decide +kernel) rfl⟩⟩
set_option maxRecDepth 100000 in
theorem zw_X8_hot : zwM zm_X8_hot (921, 2, 919, 920, 94) := ⟨zU_mem (i := 921) rfl rfl, by decide, by decide +kernel, zU_mem (i := 94) (by decide +kernel) rfl, by decide +kernel, ⟨zU_mem (i := 919) (by decide +kernel) rfl, zU_mem (i := 920) (by decide +kernel) rfl⟩⟩
set_option maxRecDepth 100000 in
theorem zw_X8_lots : zwM zm_X8_lots (933, 2, 931, 932, 94) := ⟨zU_mem (i := 933) rfl rfl, by decide, by decide +kernel, zU_mem (i := 94) (by decide +kernel) rfl, by decide +kernel, ⟨zU_mem (i := 931) (by decide +kernel) rfl, zU_mem (i := 932) (by decide +kernel) rfl⟩⟩
set_option maxRecDepth 100000 in
theorem zw_X8_gains : zwM zm_X8_gains (959, 2, 957, 958, 94) := ⟨zU_mem (i := 959) rfl rfl, by decide, by decide +kernel, zU_mem (i := 94) (by decide +kernel) rfl, by decide +kernel, ⟨zU_mem (i := 957) (by decide +kernel) rfl, zU_mem (i := 958) (by decide +kernel) rfl⟩⟩
set_option maxRecDepth 100000 in
theorem zw_X8_tried : zwM zm_X8_tried (977, 2, 975, 976, 94) := ⟨zU_mem (i := 977) rfl rfl, by decide, by decide +kernel, zU_mem (i := 94) (by decide +kernel) rfl, by decide +kernel, ⟨zU_mem (i := 975) (by decide +kernel) rfl, zU_mem (i := 976) (by decide +kernel) rfl⟩⟩
set_option maxRecDepth 100000 in
theorem zw_X8_year : zwM zm_X8_year (985, 2, 983, 984, 94) := ⟨zU_mem (i := 985) rfl rfl, by decide, by decide +kernel, zU_mem (i := 94) (by decide +kernel) rfl, by decide +kernel, ⟨zU_mem (i := 983) (by decide +kernel) rfl, zU_mem (i := 984) (by decide +kernel) rfl⟩⟩
set_option maxRecDepth 100000 in
theorem zw_X8_forget : zwM zm_X8_forget (989, 2, 987, 988, 94) := ⟨zU_mem (i := 989) rfl rfl, by decide, by decide +kernel, zU_mem (i := 94) (by decide +kernel) rfl, by decide +kernel, ⟨zU_mem (i := 987) (by decide +kernel) rfl, zU_mem (i := 988) (by decide +kernel) rfl⟩⟩
set_option maxRecDepth 100000 in
theorem zw_X8_leans : zwM zm_X8_leans (993, 2, 991, 992, 94) := ⟨zU_mem (i := 993) rfl rfl, by decide, by decide +kernel, zU_mem (i := 94) (by decide +kernel) rfl, by decide +kernel, ⟨zU_mem (i := 991) (by decide +kernel) rfl, zU_mem (i := 992) (by decide +kernel) rfl⟩⟩
set_option maxRecDepth 100000 in
theorem zw_X8_sign : zwM zm_X8_sign (1001, 2, 999, 1000, 94) := ⟨zU_mem (i := 1001) rfl rfl, by decide, by decide +kernel, zU_mem (i := 94) (by decide +kernel) rfl, by decide +kernel, ⟨zU_mem (i := 999) (by decide +kernel) rfl, zU_mem (i := 1000) (by decide +kernel) rfl⟩⟩
set_option maxRecDepth 100000 in
theorem zw_X8_limb : zwM zm_X8_limb (1013, 2, 1011, 1012, 94) := ⟨zU_mem (i := 1013) rfl rfl, by decide, by decide +kernel, zU_mem (i := 94) (by decide +kernel) rfl, by decide +kernel, ⟨zU_mem (i := 1011) (by decide +kernel) rfl, zU_mem (i := 1012) (by decide +kernel) rfl⟩⟩
set_option maxRecDepth 100000 in
theorem zw_X8_image : zwM zm_X8_image (1022, 2, 1020, 1021, 94) := ⟨zU_mem (i := 1022) rfl rfl, by decide, by decide +kernel, zU_mem (i := 94) (by decide +kernel) rfl, by decide +kernel, ⟨zU_mem (i := 1020) (by decide +kernel) rfl, zU_mem (i := 1021) (by decide +kernel) rfl⟩⟩
set_option maxRecDepth 100000 in
theorem zw_X8_from : zwM zm_X8_from (1030, 2, 1028, 1029, 94) := ⟨zU_mem (i := 1030) rfl rfl, by decide, by decide +kernel, zU_mem (i := 94) (by decide +kernel) rfl, by decide +kernel, ⟨zU_mem (i := 1028) (by decide +kernel) rfl, zU_mem (i := 1029) (by decide +kernel) rfl⟩⟩
set_option maxRecDepth 100000 in
theorem zw_X8_status : zwM zm_X8_status (1034, 2, 1032, 1033, 94) := ⟨zU_mem (i := 1034) rfl rfl, by decide, by decide +kernel, zU_mem (i := 94) (by decide +kernel) rfl, by decide +kernel, ⟨zU_mem (i := 1032) (by decide +kernel) rfl, zU_mem (i := 1033) (by decide +kernel) rfl⟩⟩
set_option maxRecDepth 100000 in
theorem zw_X8_count : zwM zm_X8_count (1038, 2, 1036, 1037, 94) := ⟨zU_mem (i := 1038) rfl rfl, by decide, by decide +kernel, zU_mem (i := 94) (by decide +kernel) rfl, by decide +kernel, ⟨zU_mem (i := 1036) (by decide +kernel) rfl, zU_mem (i := 1037) (by decide +kernel) rfl⟩⟩
set_option maxRecDepth 100000 in
theorem zw_X8_digest : zwM zm_X8_digest (1042, 2, 1040, 1041, 94) := ⟨zU_mem (i := 1042) rfl rfl, by decide, by decide +kernel, zU_mem (i := 94) (by decide +kernel) rfl, by decide +kernel, ⟨zU_mem (i := 1040) (by decide +kernel) rfl, zU_mem (i := 1041) (by decide +kernel) rfl⟩⟩
set_option maxRecDepth 100000 in
theorem zw_X8_refuse : zwM zm_X8_refuse (504, 2, 503, 0, 94) := ⟨zU_mem (i := 504) rfl rfl, by decide, by decide +kernel, zU_mem (i := 94) (by decide +kernel) rfl, by decide +kernel, ⟨zU_mem (i := 503) (by decide +kernel) rfl, zU_mem (i := 0) (by decide +kernel) rfl⟩⟩
set_option maxRecDepth 100000 in
theorem zw_X8_isChildOrNone : zwM zm_X8_isChildOrNone (748, 2, 747, 19, 94) := ⟨zU_mem (i := 748) rfl rfl, by decide, by decide +kernel, zU_mem (i := 94) (by decide +kernel) rfl, by decide +kernel, ⟨zU_mem (i := 747) (by decide +kernel) rfl, zU_mem (i := 19) (by decide +kernel) rfl⟩⟩
set_option maxRecDepth 100000 in
theorem zw_X8_isMinutes : zwM zm_X8_isMinutes (760, 0, 759, 0, 94) := ⟨zU_mem (i := 760) rfl rfl, by decide, by decide +kernel, zU_mem (i := 94) (by decide +kernel) rfl, by decide +kernel, zU_mem (i := 759) (by decide +kernel) rfl⟩
set_option maxRecDepth 100000 in
theorem zw_X8_isRule : zwM zm_X8_isRule (936, 0, 935, 0, 94) := ⟨zU_mem (i := 936) rfl rfl, by decide, by decide +kernel, zU_mem (i := 94) (by decide +kernel) rfl, by decide +kernel, zU_mem (i := 935) (by decide +kernel) rfl⟩
set_option maxRecDepth 100000 in
theorem zw_X8_isUpTo : zwM zm_X8_isUpTo (980, 0, 979, 0, 94) := ⟨zU_mem (i := 980) rfl rfl, by decide, by decide +kernel, zU_mem (i := 94) (by decide +kernel) rfl, by decide +kernel, zU_mem (i := 979) (by decide +kernel) rfl⟩
set_option maxRecDepth 100000 in
theorem zw_X8_knownWith : zwM zm_X8_knownWith (770, 0, 769, 0, 94) := ⟨zU_mem (i := 770) rfl rfl, by decide, by decide +kernel, zU_mem (i := 94) (by decide +kernel) rfl, by decide +kernel, zU_mem (i := 769) (by decide +kernel) rfl⟩
set_option maxRecDepth 100000 in
theorem zw_X8_knownAfterNight : zwM zm_X8_knownAfterNight (793, 0, 792, 0, 94) := ⟨zU_mem (i := 793) rfl rfl, by decide, by decide +kernel, zU_mem (i := 94) (by decide +kernel) rfl, by decide +kernel, zU_mem (i := 792) (by decide +kernel) rfl⟩
set_option maxRecDepth 100000 in
theorem zw_X8_power : zwM zm_X8_power (891, 0, 890, 0, 94) := ⟨zU_mem (i := 891) rfl rfl, by decide, by decide +kernel, zU_mem (i := 94) (by decide +kernel) rfl, by decide +kernel, zU_mem (i := 890) (by decide +kernel) rfl⟩
set_option maxRecDepth 100000 in
theorem zw_X9_init : zwM zm_X9_init (1069, 1, 1068, 0, 104) := ⟨zU_mem (i := 1069) rfl rfl, by decide, by decide +kernel, zU_mem (i := 104) (by decide +kernel) rfl, by decide +kernel, ⟨zU_mem (i := 1068) (by decide +kernel) rfl, by decide, rfl⟩⟩
set_option maxRecDepth 100000 in
theorem zw_X9_in : zwM zm_X9_in (1079, 0, 1078, 0, 104) := ⟨zU_mem (i := 1079) rfl rfl, by decide, by decide +kernel, zU_mem (i := 104) (by decide +kernel) rfl, by decide +kernel, zU_mem (i := 1078) (by decide +kernel) rfl⟩
set_option maxRecDepth 100000 in
theorem zw_X9_flag : zwM zm_X9_flag (1266, 0, 1265, 0, 104) := ⟨zU_mem (i := 1266) rfl rfl, by decide, by decide +kernel, zU_mem (i := 104) (by decide +kernel) rfl, by decide +kernel, zU_mem (i := 1265) (by decide +kernel) rfl⟩
set_option maxRecDepth 100000 in
theorem zw_X9_refuse : zwM zm_X9_refuse (1165, 2, 1164, 37, 104) := ⟨zU_mem (i := 1165) rfl rfl, by decide, by decide +kernel, zU_mem (i := 104) (by decide +kernel) rfl, by decide +kernel, ⟨zU_mem (i := 1164) (by decide +kernel) rfl, zU_mem (i := 37) (by decide +kernel) rfl⟩⟩
set_option maxRecDepth 100000 in
theorem zw_X9_bad : zwM zm_X9_bad (1161, 2, 1160, 36, 104) := ⟨zU_mem (i := 1161) rfl rfl, by decide, by decide +kernel, zU_mem (i := 104) (by decide +kernel) rfl, by decide +kernel, ⟨zU_mem (i := 1160) (by decide +kernel) rfl, zU_mem (i := 36) (by decide +kernel) rfl⟩⟩
set_option maxRecDepth 100000 in
theorem zw_X9_clearDraft : zwM zm_X9_clearDraft (1074, 2, 1073, 34, 104) := ⟨zU_mem (i := 1074) rfl rfl, by decide, by decide +kernel, zU_mem (i := 104) (by decide +kernel) rfl, by decide +kernel, ⟨zU_mem (i := 1073) (by decide +kernel) rfl, zU_mem (i := 34) (by decide +kernel) rfl⟩⟩
set_option maxRecDepth 100000 in
theorem zw_X9_keepDraft : zwM zm_X9_keepDraft (1085, 2, 1084, 35, 104) := ⟨zU_mem (i := 1085) rfl rfl, by decide, by decide +kernel, zU_mem (i := 104) (by decide +kernel) rfl, by decide +kernel, ⟨zU_mem (i := 1084) (by decide +kernel) rfl, zU_mem (i := 35) (by decide +kernel) rfl⟩⟩
set_option maxRecDepth 100000 in
theorem zw_X9_type : zwM zm_X9_type (1156, 2, 1154, 1155, 104) := ⟨zU_mem (i := 1156) rfl rfl, by decide, by decide +kernel, zU_mem (i := 104) (by decide +kernel) rfl, by decide +kernel, ⟨zU_mem (i := 1154) (by decide +kernel) rfl, zU_mem (i := 1155) (by decide +kernel) rfl⟩⟩
set_option maxRecDepth 100000 in
theorem zw_X9_clear : zwM zm_X9_clear (1170, 2, 1168, 1169, 104) := ⟨zU_mem (i := 1170) rfl rfl, by decide, by decide +kernel, zU_mem (i := 104) (by decide +kernel) rfl, by decide +kernel, ⟨zU_mem (i := 1168) (by decide +kernel) rfl, zU_mem (i := 1169) (by decide +kernel) rfl⟩⟩
set_option maxRecDepth 100000 in
theorem zw_X9_look : zwM zm_X9_look (1182, 2, 1181, 39, 104) := ⟨zU_mem (i := 1182) rfl rfl, by decide, by decide +kernel, zU_mem (i := 104) (by decide +kernel) rfl, by decide +kernel, ⟨zU_mem (i := 1181) (by decide +kernel) rfl, zU_mem (i := 39) (by decide +kernel) rfl⟩⟩
set_option maxRecDepth 100000 in
theorem zw_X9_token : zwM zm_X9_token (1178, 2, 1177, 38, 104) := ⟨zU_mem (i := 1178) rfl rfl, by decide, by decide +kernel, zU_mem (i := 104) (by decide +kernel) rfl, by decide +kernel, ⟨zU_mem (i := 1177) (by decide +kernel) rfl, zU_mem (i := 38) (by decide +kernel) rfl⟩⟩
set_option maxRecDepth 100000 in
theorem zw_X9_is : zwM zm_X9_is (1198, 2, 1197, 42, 104) := ⟨zU_mem (i := 1198) rfl rfl, by decide, by decide +kernel, zU_mem (i := 104) (by decide +kernel) rfl, by decide +kernel, ⟨zU_mem (i := 1197) (by decide +kernel) rfl, zU_mem (i := 42) (by decide +kernel) rfl⟩⟩
set_option maxRecDepth 100000 in
theorem zw_X9_needs : zwM zm_X9_needs (1206, 2, 1205, 44, 104) := ⟨zU_mem (i := 1206) rfl rfl, by decide, by decide +kernel, zU_mem (i := 104) (by decide +kernel) rfl, by decide +kernel, ⟨zU_mem (i := 1205) (by decide +kernel) rfl, zU_mem (i := 44) (by decide +kernel) rfl⟩⟩
set_option maxRecDepth 100000 in
theorem zw_X9_isGood : zwM zm_X9_isGood (1190, 2, 1189, 40, 104) := ⟨zU_mem (i := 1190) rfl rfl, by decide, by decide +kernel, zU_mem (i := 104) (by decide +kernel) rfl, by decide +kernel, ⟨zU_mem (i := 1189) (by decide +kernel) rfl, zU_mem (i := 40) (by decide +kernel) rfl⟩⟩
set_option maxRecDepth 100000 in
theorem zw_X9_readNumber : zwM zm_X9_readNumber (1210, 2, 1209, 45, 104) := ⟨zU_mem (i := 1210) rfl rfl, by decide, by decide +kernel, zU_mem (i := 104) (by decide +kernel) rfl, by decide +kernel, ⟨zU_mem (i := 1209) (by decide +kernel) rfl, zU_mem (i := 45) (by decide +kernel) rfl⟩⟩
set_option maxRecDepth 100000 in
theorem zw_X9_readPart : zwM zm_X9_readPart (1202, 2, 1201, 43, 104) := ⟨zU_mem (i := 1202) rfl rfl, by decide, by decide +kernel, zU_mem (i := 104) (by decide +kernel) rfl, by decide +kernel, ⟨zU_mem (i := 1201) (by decide +kernel) rfl, zU_mem (i := 43) (by decide +kernel) rfl⟩⟩
set_option maxRecDepth 100000 in
theorem zw_X9_readChild : zwM zm_X9_readChild (1214, 2, 1213, 46, 104) := ⟨zU_mem (i := 1214) rfl rfl, by decide, by decide +kernel, zU_mem (i := 104) (by decide +kernel) rfl, by decide +kernel, ⟨zU_mem (i := 1213) (by decide +kernel) rfl, zU_mem (i := 46) (by decide +kernel) rfl⟩⟩
set_option maxRecDepth 100000 in
theorem zw_X9_readScene : zwM zm_X9_readScene (1218, 2, 1217, 47, 104) := ⟨zU_mem (i := 1218) rfl rfl, by decide, by decide +kernel, zU_mem (i := 104) (by decide +kernel) rfl, by decide +kernel, ⟨zU_mem (i := 1217) (by decide +kernel) rfl, zU_mem (i := 47) (by decide +kernel) rfl⟩⟩
set_option maxRecDepth 100000 in
theorem zw_X9_readWish : zwM zm_X9_readWish (1222, 2, 1221, 48, 104) := ⟨zU_mem (i := 1222) rfl rfl, by decide, by decide +kernel, zU_mem (i := 104) (by decide +kernel) rfl, by decide +kernel, ⟨zU_mem (i := 1221) (by decide +kernel) rfl, zU_mem (i := 48) (by decide +kernel) rfl⟩⟩
set_option maxRecDepth 100000 in
theorem zw_X9_readItem : zwM zm_X9_readItem (1194, 2, 1193, 41, 104) := ⟨zU_mem (i := 1194) rfl rfl, by decide, by decide +kernel, zU_mem (i := 104) (by decide +kernel) rfl, by decide +kernel, ⟨zU_mem (i := 1193) (by decide +kernel) rfl, zU_mem (i := 41) (by decide +kernel) rfl⟩⟩
set_option maxRecDepth 100000 in
theorem zw_X9_read : zwM zm_X9_read (1174, 2, 1172, 1173, 104) := ⟨zU_mem (i := 1174) rfl rfl, by decide, by decide +kernel, zU_mem (i := 104) (by decide +kernel) rfl, by decide +kernel, ⟨zU_mem (i := 1172) (by decide +kernel) rfl, zU_mem (i := 1173) (by decide +kernel) rfl⟩⟩
set_option maxRecDepth 100000 in
theorem zw_X9_put : zwM zm_X9_put (1226, 2, 1224, 1225, 104) := ⟨zU_mem (i := 1226) rfl rfl, by decide, by decide +kernel, zU_mem (i := 104) (by decide +kernel) rfl, by decide +kernel, ⟨zU_mem (i := 1224) (by decide +kernel) rfl, zU_mem (i := 1225) (by decide +kernel) rfl⟩⟩
set_option maxRecDepth 100000 in
theorem zw_X9_isPart : zwM zm_X9_isPart (1239, 2, 1238, 50, 104) := ⟨zU_mem (i := 1239) rfl rfl, by decide, by decide +kernel, zU_mem (i := 104) (by decide +kernel) rfl, by decide +kernel, ⟨zU_mem (i := 1238) (by decide +kernel) rfl, zU_mem (i := 50) (by decide +kernel) rfl⟩⟩
set_option maxRecDepth 100000 in
theorem zw_X9_isChild : zwM zm_X9_isChild (1235, 2, 1234, 49, 104) := ⟨zU_mem (i := 1235) rfl rfl, by decide, by decide +kernel, zU_mem (i := 104) (by decide +kernel) rfl, by decide +kernel, ⟨zU_mem (i := 1234) (by decide +kernel) rfl, zU_mem (i := 49) (by decide +kernel) rfl⟩⟩
set_option maxRecDepth 100000 in
theorem zw_X9_of : zwM zm_X9_of (1247, 2, 1246, 52, 104) := ⟨zU_mem (i := 1247) rfl rfl, by decide, by decide +kernel, zU_mem (i := 104) (by decide +kernel) rfl, by decide +kernel, ⟨zU_mem (i := 1246) (by decide +kernel) rfl, zU_mem (i := 52) (by decide +kernel) rfl⟩⟩
set_option maxRecDepth 100000 in
theorem zw_X9_lines : zwM zm_X9_lines (1335, 2, 1334, 67, 104) := ⟨zU_mem (i := 1335) rfl rfl, by decide, by decide +kernel, zU_mem (i := 104) (by decide +kernel) rfl, by decide +kernel, ⟨zU_mem (i := 1334) (by decide +kernel) rfl, zU_mem (i := 67) (by decide +kernel) rfl⟩⟩
set_option maxRecDepth 100000 in
theorem zw_X9_rank : zwM zm_X9_rank (1251, 2, 1250, 53, 104) := ⟨zU_mem (i := 1251) rfl rfl, by decide, by decide +kernel, zU_mem (i := 104) (by decide +kernel) rfl, by decide +kernel, ⟨zU_mem (i := 1250) (by decide +kernel) rfl, zU_mem (i := 53) (by decide +kernel) rfl⟩⟩
set_option maxRecDepth 100000 in
theorem zw_X9_fitOf : zwM zm_X9_fitOf (1243, 2, 1242, 51, 104) := ⟨zU_mem (i := 1243) rfl rfl, by decide, by decide +kernel, zU_mem (i := 104) (by decide +kernel) rfl, by decide +kernel, ⟨zU_mem (i := 1242) (by decide +kernel) rfl, zU_mem (i := 51) (by decide +kernel) rfl⟩⟩
set_option maxRecDepth 100000 in
theorem zw_X9_fit : zwM zm_X9_fit (1231, 2, 1229, 1230, 104) := ⟨zU_mem (i := 1231) rfl rfl, by decide, by decide +kernel, zU_mem (i := 104) (by decide +kernel) rfl, by decide +kernel, ⟨zU_mem (i := 1229) (by decide +kernel) rfl, zU_mem (i := 1230) (by decide +kernel) rfl⟩⟩
set_option maxRecDepth 100000 in
theorem zw_X9_isIn : zwM zm_X9_isIn (1263, 2, 1262, 55, 104) := ⟨zU_mem (i := 1263) rfl rfl, by decide, by decide +kernel, zU_mem (i := 104) (by decide +kernel) rfl, by decide +kernel, ⟨zU_mem (i := 1262) (by decide +kernel) rfl, zU_mem (i := 55) (by decide +kernel) rfl⟩⟩
set_option maxRecDepth 100000 in
theorem zw_X9_clashes : zwM zm_X9_clashes (1259, 2, 1258, 54, 104) := ⟨zU_mem (i := 1259) rfl rfl, by decide, by decide +kernel, zU_mem (i := 104) (by decide +kernel) rfl, by decide +kernel, ⟨zU_mem (i := 1258) (by decide +kernel) rfl, zU_mem (i := 54) (by decide +kernel) rfl⟩⟩
set_option maxRecDepth 100000 in
theorem zw_X9_clash : zwM zm_X9_clash (1255, 2, 1253, 1254, 104) := ⟨zU_mem (i := 1255) rfl rfl, by decide, by decide +kernel, zU_mem (i := 104) (by decide +kernel) rfl, by decide +kernel, ⟨zU_mem (i := 1253) (by decide +kernel) rfl, zU_mem (i := 1254) (by decide +kernel) rfl⟩⟩
set_option maxRecDepth 100000 in
theorem zw_X9_layClashes : zwM zm_X9_layClashes (1278, 2, 1277, 57, 104) := ⟨zU_mem (i := 1278) rfl rfl, by decide, by decide +kernel, zU_mem (i := 104) (by decide +kernel) rfl, by decide +kernel, ⟨zU_mem (i := 1277) (by decide +kernel) rfl, zU_mem (i := 57) (by decide +kernel) rfl⟩⟩
set_option maxRecDepth 100000 in
theorem zw_X9_lays : zwM zm_X9_lays (1286, 2, 1285, 59, 104) := ⟨zU_mem (i := 1286) rfl rfl, by decide, by decide +kernel, zU_mem (i := 104) (by decide +kernel) rfl, by decide +kernel, ⟨zU_mem (i := 1285) (by decide +kernel) rfl, zU_mem (i := 59) (by decide +kernel) rfl⟩⟩
set_option maxRecDepth 100000 in
theorem zw_X9_rows : zwM zm_X9_rows (1282, 2, 1281, 58, 104) := ⟨zU_mem (i := 1282) rfl rfl, by decide, by decide +kernel, zU_mem (i := 104) (by decide +kernel) rfl, by decide +kernel, ⟨zU_mem (i := 1281) (by decide +kernel) rfl, zU_mem (i := 58) (by decide +kernel) rfl⟩⟩
set_option maxRecDepth 100000 in
theorem zw_X9_players : zwM zm_X9_players (1290, 2, 1289, 60, 104) := ⟨zU_mem (i := 1290) rfl rfl, by decide, by decide +kernel, zU_mem (i := 104) (by decide +kernel) rfl, by decide +kernel, ⟨zU_mem (i := 1289) (by decide +kernel) rfl, zU_mem (i := 60) (by decide +kernel) rfl⟩⟩
set_option maxRecDepth 100000 in
theorem zw_X9_rowFit : zwM zm_X9_rowFit (1294, 2, 1293, 61, 104) := ⟨zU_mem (i := 1294) rfl rfl, by decide, by decide +kernel, zU_mem (i := 104) (by decide +kernel) rfl, by decide +kernel, ⟨zU_mem (i := 1293) (by decide +kernel) rfl, zU_mem (i := 61) (by decide +kernel) rfl⟩⟩
set_option maxRecDepth 100000 in
theorem zw_X9_takes : zwM zm_X9_takes (1298, 2, 1297, 62, 104) := ⟨zU_mem (i := 1298) rfl rfl, by decide, by decide +kernel, zU_mem (i := 104) (by decide +kernel) rfl, by decide +kernel, ⟨zU_mem (i := 1297) (by decide +kernel) rfl, zU_mem (i := 62) (by decide +kernel) rfl⟩⟩
set_option maxRecDepth 100000 in
theorem zw_X9_findBest : zwM zm_X9_findBest (1274, 2, 1273, 56, 104) := ⟨zU_mem (i := 1274) rfl rfl, by decide, by decide +kernel, zU_mem (i := 104) (by decide +kernel) rfl, by decide +kernel, ⟨zU_mem (i := 1273) (by decide +kernel) rfl, zU_mem (i := 56) (by decide +kernel) rfl⟩⟩
set_option maxRecDepth 100000 in
theorem zw_X9_best : zwM zm_X9_best (1270, 2, 1268, 1269, 104) := ⟨zU_mem (i := 1270) rfl rfl, by decide, by decide +kernel, zU_mem (i := 104) (by decide +kernel) rfl, by decide +kernel, ⟨zU_mem (i := 1268) (by decide +kernel) rfl, zU_mem (i := 1269) (by decide +kernel) rfl⟩⟩
set_option maxRecDepth 100000 in
theorem zw_X9_fewest : zwM zm_X9_fewest (1302, 2, 1300, 1301, 104) := ⟨zU_mem (i := 1302) rfl rfl, by decide, by decide +kernel, zU_mem (i := 104) (by decide +kernel) rfl, by decide +kernel, ⟨zU_mem (i := 1300) (by decide +kernel) rfl, zU_mem (i := 1301) (by decide +kernel) rfl⟩⟩
set_option maxRecDepth 100000 in
theorem zw_X9_isOrNone : zwM zm_X9_isOrNone (1310, 2, 1309, 63, 104) := ⟨zU_mem (i := 1310) rfl rfl, by decide, by decide +kernel, zU_mem (i := 104) (by decide +kernel) rfl, by decide +kernel, ⟨zU_mem (i := 1309) (by decide +kernel) rfl, zU_mem (i := 63) (by decide +kernel) rfl⟩⟩
set_option maxRecDepth 100000 in
theorem zw_X9_cast : zwM zm_X9_cast (1306, 2, 1304, 1305, 104) := ⟨zU_mem (i := 1306) rfl rfl, by decide, by decide +kernel, zU_mem (i := 104) (by decide +kernel) rfl, by decide +kernel, ⟨zU_mem (i := 1304) (by decide +kernel) rfl, zU_mem (i := 1305) (by decide +kernel) rfl⟩⟩
set_option maxRecDepth 100000 in
theorem zw_X9_takeBest : zwM zm_X9_takeBest (1314, 2, 1312, 1313, 104) := ⟨zU_mem (i := 1314) rfl rfl, by decide, by decide +kernel, zU_mem (i := 104) (by decide +kernel) rfl, by decide +kernel, ⟨zU_mem (i := 1312) (by decide +kernel) rfl, zU_mem (i := 1313) (by decide +kernel) rfl⟩⟩
set_option maxRecDepth 100000 in
theorem zw_X9_isScene : zwM zm_X9_isScene (1322, 2, 1321, 64, 104) := ⟨zU_mem (i := 1322) rfl rfl, by decide, by decide +kernel, zU_mem (i := 104) (by decide +kernel) rfl, by decide +kernel, ⟨zU_mem (i := 1321) (by decide +kernel) rfl, zU_mem (i := 64) (by decide +kernel) rfl⟩⟩
set_option maxRecDepth 100000 in
theorem zw_X9_has : zwM zm_X9_has (1343, 2, 1342, 69, 104) := ⟨zU_mem (i := 1343) rfl rfl, by decide, by decide +kernel, zU_mem (i := 104) (by decide +kernel) rfl, by decide +kernel, ⟨zU_mem (i := 1342) (by decide +kernel) rfl, zU_mem (i := 69) (by decide +kernel) rfl⟩⟩
set_option maxRecDepth 100000 in
theorem zw_X9_sits : zwM zm_X9_sits (1339, 2, 1338, 68, 104) := ⟨zU_mem (i := 1339) rfl rfl, by decide, by decide +kernel, zU_mem (i := 104) (by decide +kernel) rfl, by decide +kernel, ⟨zU_mem (i := 1338) (by decide +kernel) rfl, zU_mem (i := 68) (by decide +kernel) rfl⟩⟩
set_option maxRecDepth 100000 in
theorem zw_X9_goesThrough : zwM zm_X9_goesThrough (1331, 2, 1330, 66, 104) := ⟨zU_mem (i := 1331) rfl rfl, by decide, by decide +kernel, zU_mem (i := 104) (by decide +kernel) rfl, by decide +kernel, ⟨zU_mem (i := 1330) (by decide +kernel) rfl, zU_mem (i := 66) (by decide +kernel) rfl⟩⟩
set_option maxRecDepth 100000 in
theorem zw_X9_aNight : zwM zm_X9_aNight (1355, 2, 1354, 71, 104) := ⟨zU_mem (i := 1355) rfl rfl, by decide, by decide +kernel, zU_mem (i := 104) (by decide +kernel) rfl, by decide +kernel, ⟨zU_mem (i := 1354) (by decide +kernel) rfl, zU_mem (i := 71) (by decide +kernel) rfl⟩⟩
set_option maxRecDepth 100000 in
theorem zw_X9_takesKnown : zwM zm_X9_takesKnown (1327, 2, 1326, 65, 104) := ⟨zU_mem (i := 1327) rfl rfl, by decide, by decide +kernel, zU_mem (i := 104) (by decide +kernel) rfl, by decide +kernel, ⟨zU_mem (i := 1326) (by decide +kernel) rfl, zU_mem (i := 65) (by decide +kernel) rfl⟩⟩
set_option maxRecDepth 100000 in
theorem zw_X9_putsKnown : zwM zm_X9_putsKnown (1347, 2, 1346, 70, 104) := ⟨zU_mem (i := 1347) rfl rfl, by decide, by decide +kernel, zU_mem (i := 104) (by decide +kernel) rfl, by decide +kernel, ⟨zU_mem (i := 1346) (by decide +kernel) rfl, zU_mem (i := 70) (by decide +kernel) rfl⟩⟩
set_option maxRecDepth 100000 in
theorem zw_X9_rehearse : zwM zm_X9_rehearse (1318, 2, 1316, 1317, 104) := ⟨zU_mem (i := 1318) rfl rfl, by decide, by decide +kernel, zU_mem (i := 104) (by decide +kernel) rfl, by decide +kernel, ⟨zU_mem (i := 1316) (by decide +kernel) rfl, zU_mem (i := 1317) (by decide +kernel) rfl⟩⟩
set_option maxRecDepth 100000 in
theorem zw_X9_night : zwM zm_X9_night (1351, 2, 1349, 1350, 104) := ⟨zU_mem (i := 1351) rfl rfl, by decide, by decide +kernel, zU_mem (i := 104) (by decide +kernel) rfl, by decide +kernel, ⟨zU_mem (i := 1349) (by decide +kernel) rfl, zU_mem (i := 1350) (by decide +kernel) rfl⟩⟩
set_option maxRecDepth 100000 in
theorem zw_X9_known : zwM zm_X9_known (1359, 2, 1357, 1358, 104) := ⟨zU_mem (i := 1359) rfl rfl, by decide, by decide +kernel, zU_mem (i := 104) (by decide +kernel) rfl, by decide +kernel, ⟨zU_mem (i := 1357) (by decide +kernel) rfl, zU_mem (i := 1358) (by decide +kernel) rfl⟩⟩
set_option maxRecDepth 100000 in
theorem zw_X9_sat : zwM zm_X9_sat (1363, 2, 1361, 1362, 104) := ⟨zU_mem (i := 1363) rfl rfl, by decide, by decide +kernel, zU_mem (i := 104) (by decide +kernel) rfl, by decide +kernel, ⟨zU_mem (i := 1361) (by decide +kernel) rfl, zU_mem (i := 1362) (by decide +kernel) rfl⟩⟩
set_option maxRecDepth 100000 in
theorem zw_X9_minutesOf : zwM zm_X9_minutesOf (1379, 2, 1378, 74, 104) := ⟨zU_mem (i := 1379) rfl rfl, by decide, by decide +kernel, zU_mem (i := 104) (by decide +kernel) rfl, by decide +kernel, ⟨zU_mem (i := 1378) (by decide +kernel) rfl, zU_mem (i := 74) (by decide +kernel) rfl⟩⟩
set_option maxRecDepth 100000 in
theorem zw_X9_slipsOf : zwM zm_X9_slipsOf (1375, 2, 1374, 73, 104) := ⟨zU_mem (i := 1375) rfl rfl, by decide, by decide +kernel, zU_mem (i := 104) (by decide +kernel) rfl, by decide +kernel, ⟨zU_mem (i := 1374) (by decide +kernel) rfl, zU_mem (i := 73) (by decide +kernel) rfl⟩⟩
set_option maxRecDepth 100000 in
theorem zw_X9_allSlips : zwM zm_X9_allSlips (1371, 2, 1370, 72, 104) := ⟨zU_mem (i := 1371) rfl rfl, by decide, by decide +kernel, zU_mem (i := 104) (by decide +kernel) rfl, by decide +kernel, ⟨zU_mem (i := 1370) (by decide +kernel) rfl, zU_mem (i := 72) (by decide +kernel) rfl⟩⟩
set_option maxRecDepth 100000 in
theorem zw_X9_slips : zwM zm_X9_slips (1367, 2, 1365, 1366, 104) := ⟨zU_mem (i := 1367) rfl rfl, by decide, by decide +kernel, zU_mem (i := 104) (by decide +kernel) rfl, by decide +kernel, ⟨zU_mem (i := 1365) (by decide +kernel) rfl, zU_mem (i := 1366) (by decide +kernel) rfl⟩⟩
set_option maxRecDepth 100000 in
theorem zw_X9_cut : zwM zm_X9_cut (1383, 2, 1381, 1382, 104) := ⟨zU_mem (i := 1383) rfl rfl, by decide, by decide +kernel, zU_mem (i := 104) (by decide +kernel) rfl, by decide +kernel, ⟨zU_mem (i := 1381) (by decide +kernel) rfl, zU_mem (i := 1382) (by decide +kernel) rfl⟩⟩
set_option maxRecDepth 100000 in
theorem zw_X9_leastKnown : zwM zm_X9_leastKnown (1393, 2, 1392, 75, 104) := ⟨zU_mem (i := 1393) rfl rfl, by decide, by decide +kernel, zU_mem (i := 104) (by decide +kernel) rfl, by decide +kernel, ⟨zU_mem (i := 1392) (by decide +kernel) rfl, zU_mem (i := 75) (by decide +kernel) rfl⟩⟩
set_option maxRecDepth 100000 in
theorem zw_X9_plan : zwM zm_X9_plan (1387, 2, 1385, 1386, 104) := ⟨zU_mem (i := 1387) rfl rfl, by decide, by decide +kernel, zU_mem (i := 104) (by decide +kernel) rfl, by decide +kernel, ⟨zU_mem (i := 1385) (by decide +kernel) rfl, zU_mem (i := 1386) (by decide +kernel) rfl⟩⟩
set_option maxRecDepth 100000 in
theorem zw_X9_behind : zwM zm_X9_behind (1397, 2, 1395, 1396, 104) := ⟨zU_mem (i := 1397) rfl rfl, by decide, by decide +kernel, zU_mem (i := 104) (by decide +kernel) rfl, by decide +kernel, ⟨zU_mem (i := 1395) (by decide +kernel) rfl, zU_mem (i := 1396) (by decide +kernel) rfl⟩⟩
set_option maxRecDepth 100000 in
theorem zw_X9_isWell : zwM zm_X9_isWell (1412, 0, 1411, 0, 104) := ⟨zU_mem (i := 1412) rfl rfl, by decide, by decide +kernel, zU_mem (i := 104) (by decide +kernel) rfl, by decide +kernel, zU_mem (i := 1411) (by decide +kernel) rfl⟩
set_option maxRecDepth 100000 in
theorem zw_X9_goes : zwM zm_X9_goes (1409, 2, 1408, 77, 104) := ⟨zU_mem (i := 1409) rfl rfl, by decide, by decide +kernel, zU_mem (i := 104) (by decide +kernel) rfl, by decide +kernel, ⟨zU_mem (i := 1408) (by decide +kernel) rfl, zU_mem (i := 77) (by decide +kernel) rfl⟩⟩
set_option maxRecDepth 100000 in
theorem zw_X9_whole : zwM zm_X9_whole (1416, 2, 1415, 78, 104) := ⟨zU_mem (i := 1416) rfl rfl, by decide, by decide +kernel, zU_mem (i := 104) (by decide +kernel) rfl, by decide +kernel, ⟨zU_mem (i := 1415) (by decide +kernel) rfl, zU_mem (i := 78) (by decide +kernel) rfl⟩⟩
set_option maxRecDepth 100000 in
theorem zw_X9_oddsOf : zwM zm_X9_oddsOf (1405, 2, 1404, 76, 104) := ⟨zU_mem (i := 1405) rfl rfl, by decide, by decide +kernel, zU_mem (i := 104) (by decide +kernel) rfl, by decide +kernel, ⟨zU_mem (i := 1404) (by decide +kernel) rfl, zU_mem (i := 76) (by decide +kernel) rfl⟩⟩
set_option maxRecDepth 100000 in
theorem zw_X9_tell : zwM zm_X9_tell (1421, 2, 1420, 79, 104) := ⟨zU_mem (i := 1421) rfl rfl, by decide, by decide +kernel, zU_mem (i := 104) (by decide +kernel) rfl, by decide +kernel, ⟨zU_mem (i := 1420) (by decide +kernel) rfl, zU_mem (i := 79) (by decide +kernel) rfl⟩⟩
set_option maxRecDepth 100000 in
theorem zw_X9_odds : zwM zm_X9_odds (1401, 2, 1399, 1400, 104) := ⟨zU_mem (i := 1401) rfl rfl, by decide, by decide +kernel, zU_mem (i := 104) (by decide +kernel) rfl, by decide +kernel, ⟨zU_mem (i := 1399) (by decide +kernel) rfl, zU_mem (i := 1400) (by decide +kernel) rfl⟩⟩
set_option maxRecDepth 100000 in
theorem zw_X9_hours : zwM zm_X9_hours (1429, 2, 1428, 80, 104) := ⟨zU_mem (i := 1429) rfl rfl, by decide, by decide +kernel, zU_mem (i := 104) (by decide +kernel) rfl, by decide +kernel, ⟨zU_mem (i := 1428) (by decide +kernel) rfl, zU_mem (i := 80) (by decide +kernel) rfl⟩⟩
set_option maxRecDepth 100000 in
theorem zw_X9_next : zwM zm_X9_next (1425, 2, 1423, 1424, 104) := ⟨zU_mem (i := 1425) rfl rfl, by decide, by decide +kernel, zU_mem (i := 104) (by decide +kernel) rfl, by decide +kernel, ⟨zU_mem (i := 1423) (by decide +kernel) rfl, zU_mem (i := 1424) (by decide +kernel) rfl⟩⟩
set_option maxRecDepth 100000 in
theorem zw_X9_hot : zwM zm_X9_hot (1433, 2, 1431, 1432, 104) := ⟨zU_mem (i := 1433) rfl rfl, by decide, by decide +kernel, zU_mem (i := 104) (by decide +kernel) rfl, by decide +kernel, ⟨zU_mem (i := 1431) (by decide +kernel) rfl, zU_mem (i := 1432) (by decide +kernel) rfl⟩⟩
set_option maxRecDepth 100000 in
theorem zw_X9_takesWishes : zwM zm_X9_takesWishes (1441, 2, 1440, 81, 104) := ⟨zU_mem (i := 1441) rfl rfl, by decide, by decide +kernel, zU_mem (i := 104) (by decide +kernel) rfl, by decide +kernel, ⟨zU_mem (i := 1440) (by decide +kernel) rfl, zU_mem (i := 81) (by decide +kernel) rfl⟩⟩
set_option maxRecDepth 100000 in
theorem zw_X9_isFree : zwM zm_X9_isFree (1453, 2, 1452, 84, 104) := ⟨zU_mem (i := 1453) rfl rfl, by decide, by decide +kernel, zU_mem (i := 104) (by decide +kernel) rfl, by decide +kernel, ⟨zU_mem (i := 1452) (by decide +kernel) rfl, zU_mem (i := 84) (by decide +kernel) rfl⟩⟩
set_option maxRecDepth 100000 in
theorem zw_X9_gives : zwM zm_X9_gives (1449, 2, 1448, 83, 104) := ⟨zU_mem (i := 1449) rfl rfl, by decide, by decide +kernel, zU_mem (i := 104) (by decide +kernel) rfl, by decide +kernel, ⟨zU_mem (i := 1448) (by decide +kernel) rfl, zU_mem (i := 83) (by decide +kernel) rfl⟩⟩
set_option maxRecDepth 100000 in
theorem zw_X9_layLots : zwM zm_X9_layLots (1445, 2, 1444, 82, 104) := ⟨zU_mem (i := 1445) rfl rfl, by decide, by decide +kernel, zU_mem (i := 104) (by decide +kernel) rfl, by decide +kernel, ⟨zU_mem (i := 1444) (by decide +kernel) rfl, zU_mem (i := 82) (by decide +kernel) rfl⟩⟩
set_option maxRecDepth 100000 in
theorem zw_X9_lots : zwM zm_X9_lots (1437, 2, 1435, 1436, 104) := ⟨zU_mem (i := 1437) rfl rfl, by decide, by decide +kernel, zU_mem (i := 104) (by decide +kernel) rfl, by decide +kernel, ⟨zU_mem (i := 1435) (by decide +kernel) rfl, zU_mem (i := 1436) (by decide +kernel) rfl⟩⟩
set_option maxRecDepth 100000 in
theorem zw_X9_rankOrLast : zwM zm_X9_rankOrLast (1465, 2, 1464, 86, 104) := ⟨zU_mem (i := 1465) rfl rfl, by decide, by decide +kernel, zU_mem (i := 104) (by decide +kernel) rfl, by decide +kernel, ⟨zU_mem (i := 1464) (by decide +kernel) rfl, zU_mem (i := 86) (by decide +kernel) rfl⟩⟩
set_option maxRecDepth 100000 in
theorem zw_X9_gainsOne : zwM zm_X9_gainsOne (1461, 2, 1460, 85, 104) := ⟨zU_mem (i := 1461) rfl rfl, by decide, by decide +kernel, zU_mem (i := 104) (by decide +kernel) rfl, by decide +kernel, ⟨zU_mem (i := 1460) (by decide +kernel) rfl, zU_mem (i := 85) (by decide +kernel) rfl⟩⟩
set_option maxRecDepth 100000 in
theorem zw_X9_gains : zwM zm_X9_gains (1457, 2, 1455, 1456, 104) := ⟨zU_mem (i := 1457) rfl rfl, by decide, by decide +kernel, zU_mem (i := 104) (by decide +kernel) rfl, by decide +kernel, ⟨zU_mem (i := 1455) (by decide +kernel) rfl, zU_mem (i := 1456) (by decide +kernel) rfl⟩⟩
set_option maxRecDepth 100000 in
theorem zw_X9_power : zwM zm_X9_power (1474, 0, 1473, 0, 104) := ⟨zU_mem (i := 1474) rfl rfl, by decide, by decide +kernel, zU_mem (i := 104) (by decide +kernel) rfl, by decide +kernel, zU_mem (i := 1473) (by decide +kernel) rfl⟩
set_option maxRecDepth 100000 in
theorem zw_X9_tried : zwM zm_X9_tried (1469, 2, 1467, 1468, 104) := ⟨zU_mem (i := 1469) rfl rfl, by decide, by decide +kernel, zU_mem (i := 104) (by decide +kernel) rfl, by decide +kernel, ⟨zU_mem (i := 1467) (by decide +kernel) rfl, zU_mem (i := 1468) (by decide +kernel) rfl⟩⟩
set_option maxRecDepth 100000 in
theorem zw_X9_year : zwM zm_X9_year (1478, 2, 1476, 1477, 104) := ⟨zU_mem (i := 1478) rfl rfl, by decide, by decide +kernel, zU_mem (i := 104) (by decide +kernel) rfl, by decide +kernel, ⟨zU_mem (i := 1476) (by decide +kernel) rfl, zU_mem (i := 1477) (by decide +kernel) rfl⟩⟩
set_option maxRecDepth 100000 in
theorem zw_X9_forget : zwM zm_X9_forget (1482, 2, 1480, 1481, 104) := ⟨zU_mem (i := 1482) rfl rfl, by decide, by decide +kernel, zU_mem (i := 104) (by decide +kernel) rfl, by decide +kernel, ⟨zU_mem (i := 1480) (by decide +kernel) rfl, zU_mem (i := 1481) (by decide +kernel) rfl⟩⟩
set_option maxRecDepth 100000 in
theorem zw_X9_leanOf : zwM zm_X9_leanOf (1491, 2, 1490, 87, 104) := ⟨zU_mem (i := 1491) rfl rfl, by decide, by decide +kernel, zU_mem (i := 104) (by decide +kernel) rfl, by decide +kernel, ⟨zU_mem (i := 1490) (by decide +kernel) rfl, zU_mem (i := 87) (by decide +kernel) rfl⟩⟩
set_option maxRecDepth 100000 in
theorem zw_X9_leans : zwM zm_X9_leans (1486, 2, 1484, 1485, 104) := ⟨zU_mem (i := 1486) rfl rfl, by decide, by decide +kernel, zU_mem (i := 104) (by decide +kernel) rfl, by decide +kernel, ⟨zU_mem (i := 1484) (by decide +kernel) rfl, zU_mem (i := 1485) (by decide +kernel) rfl⟩⟩
set_option maxRecDepth 100000 in
theorem zw_X9_limbs : zwM zm_X9_limbs (1503, 0, 1502, 0, 104) := ⟨zU_mem (i := 1503) rfl rfl, by decide, by decide +kernel, zU_mem (i := 104) (by decide +kernel) rfl, by decide +kernel, zU_mem (i := 1502) (by decide +kernel) rfl⟩
set_option maxRecDepth 100000 in
theorem zw_X9_limbOf : zwM zm_X9_limbOf (1511, 0, 1510, 0, 104) := ⟨zU_mem (i := 1511) rfl rfl, by decide, by decide +kernel, zU_mem (i := 104) (by decide +kernel) rfl, by decide +kernel, zU_mem (i := 1510) (by decide +kernel) rfl⟩
set_option maxRecDepth 100000 in
theorem zw_X9_signOf : zwM zm_X9_signOf (1500, 2, 1499, 88, 104) := ⟨zU_mem (i := 1500) rfl rfl, by decide, by decide +kernel, zU_mem (i := 104) (by decide +kernel) rfl, by decide +kernel, ⟨zU_mem (i := 1499) (by decide +kernel) rfl, zU_mem (i := 88) (by decide +kernel) rfl⟩⟩
set_option maxRecDepth 100000 in
theorem zw_X9_sign : zwM zm_X9_sign (1496, 2, 1494, 1495, 104) := ⟨zU_mem (i := 1496) rfl rfl, by decide, by decide +kernel, zU_mem (i := 104) (by decide +kernel) rfl, by decide +kernel, ⟨zU_mem (i := 1494) (by decide +kernel) rfl, zU_mem (i := 1495) (by decide +kernel) rfl⟩⟩
set_option maxRecDepth 100000 in
theorem zw_X9_limb : zwM zm_X9_limb (1508, 2, 1506, 1507, 104) := ⟨zU_mem (i := 1508) rfl rfl, by decide, by decide +kernel, zU_mem (i := 104) (by decide +kernel) rfl, by decide +kernel, ⟨zU_mem (i := 1506) (by decide +kernel) rfl, zU_mem (i := 1507) (by decide +kernel) rfl⟩⟩
set_option maxRecDepth 100000 in
theorem zw_X9_copies : zwM zm_X9_copies (1519, 2, 1518, 89, 104) := ⟨zU_mem (i := 1519) rfl rfl, by decide, by decide +kernel, zU_mem (i := 104) (by decide +kernel) rfl, by decide +kernel, ⟨zU_mem (i := 1518) (by decide +kernel) rfl, zU_mem (i := 89) (by decide +kernel) rfl⟩⟩
set_option maxRecDepth 100000 in
theorem zw_X9_image : zwM zm_X9_image (1515, 2, 1513, 1514, 104) := ⟨zU_mem (i := 1515) rfl rfl, by decide, by decide +kernel, zU_mem (i := 104) (by decide +kernel) rfl, by decide +kernel, ⟨zU_mem (i := 1513) (by decide +kernel) rfl, zU_mem (i := 1514) (by decide +kernel) rfl⟩⟩
set_option maxRecDepth 100000 in
theorem zw_X9_from : zwM zm_X9_from (1523, 2, 1521, 1522, 104) := ⟨zU_mem (i := 1523) rfl rfl, by decide, by decide +kernel, zU_mem (i := 104) (by decide +kernel) rfl, by decide +kernel, ⟨zU_mem (i := 1521) (by decide +kernel) rfl, zU_mem (i := 1522) (by decide +kernel) rfl⟩⟩
set_option maxRecDepth 100000 in
theorem zw_X9_status : zwM zm_X9_status (1527, 2, 1525, 1526, 104) := ⟨zU_mem (i := 1527) rfl rfl, by decide, by decide +kernel, zU_mem (i := 104) (by decide +kernel) rfl, by decide +kernel, ⟨zU_mem (i := 1525) (by decide +kernel) rfl, zU_mem (i := 1526) (by decide +kernel) rfl⟩⟩
set_option maxRecDepth 100000 in
theorem zw_X9_countOf : zwM zm_X9_countOf (1535, 2, 1534, 90, 104) := ⟨zU_mem (i := 1535) rfl rfl, by decide, by decide +kernel, zU_mem (i := 104) (by decide +kernel) rfl, by decide +kernel, ⟨zU_mem (i := 1534) (by decide +kernel) rfl, zU_mem (i := 90) (by decide +kernel) rfl⟩⟩
set_option maxRecDepth 100000 in
theorem zw_X9_count : zwM zm_X9_count (1531, 2, 1529, 1530, 104) := ⟨zU_mem (i := 1531) rfl rfl, by decide, by decide +kernel, zU_mem (i := 104) (by decide +kernel) rfl, by decide +kernel, ⟨zU_mem (i := 1529) (by decide +kernel) rfl, zU_mem (i := 1530) (by decide +kernel) rfl⟩⟩
set_option maxRecDepth 100000 in
theorem zw_X9_notes : zwM zm_X9_notes (1544, 2, 1543, 91, 104) := ⟨zU_mem (i := 1544) rfl rfl, by decide, by decide +kernel, zU_mem (i := 104) (by decide +kernel) rfl, by decide +kernel, ⟨zU_mem (i := 1543) (by decide +kernel) rfl, zU_mem (i := 91) (by decide +kernel) rfl⟩⟩
set_option maxRecDepth 100000 in
theorem zw_X9_notesRow : zwM zm_X9_notesRow (1549, 2, 1548, 92, 104) := ⟨zU_mem (i := 1549) rfl rfl, by decide, by decide +kernel, zU_mem (i := 104) (by decide +kernel) rfl, by decide +kernel, ⟨zU_mem (i := 1548) (by decide +kernel) rfl, zU_mem (i := 92) (by decide +kernel) rfl⟩⟩
set_option maxRecDepth 100000 in
theorem zw_X9_digest : zwM zm_X9_digest (1539, 2, 1537, 1538, 104) := ⟨zU_mem (i := 1539) rfl rfl, by decide, by decide +kernel, zU_mem (i := 104) (by decide +kernel) rfl, by decide +kernel, ⟨zU_mem (i := 1537) (by decide +kernel) rfl, zU_mem (i := 1538) (by decide +kernel) rfl⟩⟩
set_option maxRecDepth 100000 in
theorem zw_J6_bitCount : zwM zm_J6_bitCount (778, 0, 777, 0, 109) := ⟨zU_mem (i := 778) rfl rfl, by decide, by decide +kernel, zU_mem (i := 109) (by decide +kernel) rfl, by decide +kernel, zU_mem (i := 777) (by decide +kernel) rfl⟩
