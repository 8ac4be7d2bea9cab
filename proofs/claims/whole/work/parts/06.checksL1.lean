set_option maxRecDepth 100000 in
theorem zk_L_law_240 : ∀ x ∈ (zi_L_law.drop 240).take 60, zokE zm_L_law x = true := List.all_eq_true.mp (by decide +kernel)
set_option maxRecDepth 100000 in
theorem zk_L_law_300 : ∀ x ∈ (zi_L_law.drop 300).take 60, zokE zm_L_law x = true := List.all_eq_true.mp (by decide +kernel)
set_option maxRecDepth 100000 in
theorem zk_L_law_360 : ∀ x ∈ (zi_L_law.drop 360).take 60, zokE zm_L_law x = true := List.all_eq_true.mp (by decide +kernel)
set_option maxRecDepth 100000 in
theorem zk_L_law_420 : ∀ x ∈ (zi_L_law.drop 420).take 60, zokE zm_L_law x = true := List.all_eq_true.mp (by decide +kernel)
