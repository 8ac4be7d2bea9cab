set_option maxRecDepth 100000 in
theorem zk_L_law_0 : ∀ x ∈ (zi_L_law.drop 0).take 60, zokE zm_L_law x = true := List.all_eq_true.mp (by decide +kernel)
set_option maxRecDepth 100000 in
theorem zk_L_law_60 : ∀ x ∈ (zi_L_law.drop 60).take 60, zokE zm_L_law x = true := List.all_eq_true.mp (by decide +kernel)
set_option maxRecDepth 100000 in
theorem zk_L_law_120 : ∀ x ∈ (zi_L_law.drop 120).take 60, zokE zm_L_law x = true := List.all_eq_true.mp (by decide +kernel)
set_option maxRecDepth 100000 in
theorem zk_L_law_180 : ∀ x ∈ (zi_L_law.drop 180).take 60, zokE zm_L_law x = true := List.all_eq_true.mp (by decide +kernel)
