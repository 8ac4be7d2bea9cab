set_option maxRecDepth 100000 in
theorem zk_L_law_480 : ∀ x ∈ (zi_L_law.drop 480).take 60, zokE zm_L_law x = true := List.all_eq_true.mp (by decide +kernel)
set_option maxRecDepth 100000 in
theorem zk_L_law_540 : ∀ x ∈ (zi_L_law.drop 540).take 60, zokE zm_L_law x = true := List.all_eq_true.mp (by decide +kernel)
set_option maxRecDepth 100000 in
theorem zk_L_law_600 : ∀ x ∈ (zi_L_law.drop 600).take 60, zokE zm_L_law x = true := List.all_eq_true.mp (by decide +kernel)
set_option maxRecDepth 100000 in
theorem zk_L_law_660 : ∀ x ∈ (zi_L_law.drop 660).take 60, zokE zm_L_law x = true := List.all_eq_true.mp (by decide +kernel)
